section
-- ===== PART A: goes FIRST, ahead of the names: the tables' words, and 'selects' of the private methods out of them =====
/-- a private method of a class that the tables say can be made, by its rows of tables_1 -/
def lw_okq (q : MethodName × Nat) : Prop := (q.1.cls ≠ "java/lang/invoke/MethodHandle" ∧ q.1.cls ≠ "java/lang/invoke/VarHandle") ∧ Cond.instantiable q.1.cls q.2 ∈ tables_1 ∧ Cond.privateMethod q.1 ∈ tables_1 ∧ Cond.instanceMethod q.1 ∈ tables_1
theorem lw_p0 : lw_okq (⟨"EchoedRounds", "isWellBehaved", "(I)Z"⟩, 1) := ⟨⟨by decide +kernel, by decide +kernel⟩, List.mem_of_getElem? (i := 10) (by decide +kernel), List.mem_of_getElem? (i := 162) (by decide +kernel), List.mem_of_getElem? (i := 163) (by decide +kernel)⟩
theorem lw_p1 : lw_okq (⟨"EchoedRounds", "isNode", "(I)Z"⟩, 1) := ⟨⟨by decide +kernel, by decide +kernel⟩, List.mem_of_getElem? (i := 10) (by decide +kernel), List.mem_of_getElem? (i := 166) (by decide +kernel), List.mem_of_getElem? (i := 167) (by decide +kernel)⟩
theorem lw_p2 : lw_okq (⟨"EchoedRounds$Node", "enter", "(II)V"⟩, 13) := ⟨⟨by decide +kernel, by decide +kernel⟩, List.mem_of_getElem? (i := 47) (by decide +kernel), List.mem_of_getElem? (i := 181) (by decide +kernel), List.mem_of_getElem? (i := 182) (by decide +kernel)⟩
theorem lw_p3 : lw_okq (⟨"EchoedRounds$Log", "append", "(I)V"⟩, 2) := ⟨⟨by decide +kernel, by decide +kernel⟩, List.mem_of_getElem? (i := 53) (by decide +kernel), List.mem_of_getElem? (i := 188) (by decide +kernel), List.mem_of_getElem? (i := 189) (by decide +kernel)⟩
theorem lw_p4 : lw_okq (⟨"EchoedRounds$Node", "settle", "()V"⟩, 13) := ⟨⟨by decide +kernel, by decide +kernel⟩, List.mem_of_getElem? (i := 47) (by decide +kernel), List.mem_of_getElem? (i := 192) (by decide +kernel), List.mem_of_getElem? (i := 193) (by decide +kernel)⟩
theorem lw_p5 : lw_okq (⟨"EchoedRounds$Node", "hearNextOf", "(ILEchoedRounds$Log;)Z"⟩, 13) := ⟨⟨by decide +kernel, by decide +kernel⟩, List.mem_of_getElem? (i := 47) (by decide +kernel), List.mem_of_getElem? (i := 196) (by decide +kernel), List.mem_of_getElem? (i := 197) (by decide +kernel)⟩
theorem lw_p6 : lw_okq (⟨"EchoedRounds$Log", "codeAt", "(I)I"⟩, 2) := ⟨⟨by decide +kernel, by decide +kernel⟩, List.mem_of_getElem? (i := 53) (by decide +kernel), List.mem_of_getElem? (i := 200) (by decide +kernel), List.mem_of_getElem? (i := 201) (by decide +kernel)⟩
theorem lw_p7 : lw_okq (⟨"EchoedRounds$Node", "hear", "(II)Z"⟩, 13) := ⟨⟨by decide +kernel, by decide +kernel⟩, List.mem_of_getElem? (i := 47) (by decide +kernel), List.mem_of_getElem? (i := 204) (by decide +kernel), List.mem_of_getElem? (i := 205) (by decide +kernel)⟩
theorem lw_p8 : lw_okq (⟨"EchoedRounds$Tally", "countIn", "(IIII)Z"⟩, 2) := ⟨⟨by decide +kernel, by decide +kernel⟩, List.mem_of_getElem? (i := 68) (by decide +kernel), List.mem_of_getElem? (i := 211) (by decide +kernel), List.mem_of_getElem? (i := 212) (by decide +kernel)⟩
theorem lw_p9 : lw_okq (⟨"EchoedRounds$Node", "hearEcho", "(III)V"⟩, 13) := ⟨⟨by decide +kernel, by decide +kernel⟩, List.mem_of_getElem? (i := 47) (by decide +kernel), List.mem_of_getElem? (i := 215) (by decide +kernel), List.mem_of_getElem? (i := 216) (by decide +kernel)⟩
theorem lw_p10 : lw_okq (⟨"EchoedRounds$Tally", "count", "(III)I"⟩, 2) := ⟨⟨by decide +kernel, by decide +kernel⟩, List.mem_of_getElem? (i := 68) (by decide +kernel), List.mem_of_getElem? (i := 219) (by decide +kernel), List.mem_of_getElem? (i := 220) (by decide +kernel)⟩
theorem lw_p11 : lw_okq (⟨"EchoedRounds$Node", "sendReadyOnce", "(III)V"⟩, 13) := ⟨⟨by decide +kernel, by decide +kernel⟩, List.mem_of_getElem? (i := 47) (by decide +kernel), List.mem_of_getElem? (i := 223) (by decide +kernel), List.mem_of_getElem? (i := 224) (by decide +kernel)⟩
theorem lw_p12 : lw_okq (⟨"EchoedRounds$Node", "hearReady", "(III)V"⟩, 13) := ⟨⟨by decide +kernel, by decide +kernel⟩, List.mem_of_getElem? (i := 47) (by decide +kernel), List.mem_of_getElem? (i := 227) (by decide +kernel), List.mem_of_getElem? (i := 228) (by decide +kernel)⟩
theorem lw_p13 : lw_okq (⟨"EchoedRounds$Node", "makeOneValid", "()Z"⟩, 13) := ⟨⟨by decide +kernel, by decide +kernel⟩, List.mem_of_getElem? (i := 47) (by decide +kernel), List.mem_of_getElem? (i := 231) (by decide +kernel), List.mem_of_getElem? (i := 232) (by decide +kernel)⟩
theorem lw_p14 : lw_okq (⟨"EchoedRounds$Node", "canBecomeValid", "(II)Z"⟩, 13) := ⟨⟨by decide +kernel, by decide +kernel⟩, List.mem_of_getElem? (i := 47) (by decide +kernel), List.mem_of_getElem? (i := 235) (by decide +kernel), List.mem_of_getElem? (i := 236) (by decide +kernel)⟩
theorem lw_p15 : lw_okq (⟨"EchoedRounds$Row", "holds", "(I)Z"⟩, 4) := ⟨⟨by decide +kernel, by decide +kernel⟩, List.mem_of_getElem? (i := 82) (by decide +kernel), List.mem_of_getElem? (i := 239) (by decide +kernel), List.mem_of_getElem? (i := 240) (by decide +kernel)⟩
def lw_privs_1 : List (MethodName × Nat) := [(⟨"EchoedRounds", "isWellBehaved", "(I)Z"⟩, 1), (⟨"EchoedRounds", "isNode", "(I)Z"⟩, 1), (⟨"EchoedRounds$Node", "enter", "(II)V"⟩, 13), (⟨"EchoedRounds$Log", "append", "(I)V"⟩, 2), (⟨"EchoedRounds$Node", "settle", "()V"⟩, 13), (⟨"EchoedRounds$Node", "hearNextOf", "(ILEchoedRounds$Log;)Z"⟩, 13), (⟨"EchoedRounds$Log", "codeAt", "(I)I"⟩, 2), (⟨"EchoedRounds$Node", "hear", "(II)Z"⟩, 13), (⟨"EchoedRounds$Tally", "countIn", "(IIII)Z"⟩, 2), (⟨"EchoedRounds$Node", "hearEcho", "(III)V"⟩, 13), (⟨"EchoedRounds$Tally", "count", "(III)I"⟩, 2), (⟨"EchoedRounds$Node", "sendReadyOnce", "(III)V"⟩, 13), (⟨"EchoedRounds$Node", "hearReady", "(III)V"⟩, 13), (⟨"EchoedRounds$Node", "makeOneValid", "()Z"⟩, 13), (⟨"EchoedRounds$Node", "canBecomeValid", "(II)Z"⟩, 13), (⟨"EchoedRounds$Row", "holds", "(I)Z"⟩, 4)]
theorem lw_r1 : ∀ q ∈ lw_privs_1, lw_okq q := List.forall_mem_cons.mpr ⟨lw_p0, List.forall_mem_cons.mpr ⟨lw_p1, List.forall_mem_cons.mpr ⟨lw_p2, List.forall_mem_cons.mpr ⟨lw_p3, List.forall_mem_cons.mpr ⟨lw_p4, List.forall_mem_cons.mpr ⟨lw_p5, List.forall_mem_cons.mpr ⟨lw_p6, List.forall_mem_cons.mpr ⟨lw_p7, List.forall_mem_cons.mpr ⟨lw_p8, List.forall_mem_cons.mpr ⟨lw_p9, List.forall_mem_cons.mpr ⟨lw_p10, List.forall_mem_cons.mpr ⟨lw_p11, List.forall_mem_cons.mpr ⟨lw_p12, List.forall_mem_cons.mpr ⟨lw_p13, List.forall_mem_cons.mpr ⟨lw_p14, List.forall_mem_cons.mpr ⟨lw_p15, fun _ h => absurd h List.not_mem_nil⟩⟩⟩⟩⟩⟩⟩⟩⟩⟩⟩⟩⟩⟩⟩⟩
theorem lw_p16 : lw_okq (⟨"EchoedRounds$Rules", "follows", "(IIILEchoedRounds$Row;)Z"⟩, 4) := ⟨⟨by decide +kernel, by decide +kernel⟩, List.mem_of_getElem? (i := 24) (by decide +kernel), List.mem_of_getElem? (i := 244) (by decide +kernel), List.mem_of_getElem? (i := 245) (by decide +kernel)⟩
theorem lw_p17 : lw_okq (⟨"EchoedRounds$Rules", "isFull", "(LEchoedRounds$Row;)Z"⟩, 4) := ⟨⟨by decide +kernel, by decide +kernel⟩, List.mem_of_getElem? (i := 24) (by decide +kernel), List.mem_of_getElem? (i := 248) (by decide +kernel), List.mem_of_getElem? (i := 249) (by decide +kernel)⟩
theorem lw_p18 : lw_okq (⟨"EchoedRounds$Rules", "mostChosen", "(LEchoedRounds$Row;I)I"⟩, 4) := ⟨⟨by decide +kernel, by decide +kernel⟩, List.mem_of_getElem? (i := 24) (by decide +kernel), List.mem_of_getElem? (i := 252) (by decide +kernel), List.mem_of_getElem? (i := 253) (by decide +kernel)⟩
theorem lw_p19 : lw_okq (⟨"EchoedRounds$Rules", "isMajority", "(I)Z"⟩, 4) := ⟨⟨by decide +kernel, by decide +kernel⟩, List.mem_of_getElem? (i := 24) (by decide +kernel), List.mem_of_getElem? (i := 257) (by decide +kernel), List.mem_of_getElem? (i := 258) (by decide +kernel)⟩
theorem lw_p20 : lw_okq (⟨"EchoedRounds$Row", "holdsWith", "(II)Z"⟩, 4) := ⟨⟨by decide +kernel, by decide +kernel⟩, List.mem_of_getElem? (i := 82) (by decide +kernel), List.mem_of_getElem? (i := 261) (by decide +kernel), List.mem_of_getElem? (i := 262) (by decide +kernel)⟩
theorem lw_p21 : lw_okq (⟨"EchoedRounds$Rules", "canStayDivided", "(LEchoedRounds$Row;)Z"⟩, 4) := ⟨⟨by decide +kernel, by decide +kernel⟩, List.mem_of_getElem? (i := 24) (by decide +kernel), List.mem_of_getElem? (i := 265) (by decide +kernel), List.mem_of_getElem? (i := 266) (by decide +kernel)⟩
theorem lw_p22 : lw_okq (⟨"EchoedRounds$Rules", "canPrevail", "(LEchoedRounds$Row;I)Z"⟩, 4) := ⟨⟨by decide +kernel, by decide +kernel⟩, List.mem_of_getElem? (i := 24) (by decide +kernel), List.mem_of_getElem? (i := 270) (by decide +kernel), List.mem_of_getElem? (i := 271) (by decide +kernel)⟩
theorem lw_p23 : lw_okq (⟨"EchoedRounds$Rules", "canNeedToss", "(LEchoedRounds$Row;)Z"⟩, 4) := ⟨⟨by decide +kernel, by decide +kernel⟩, List.mem_of_getElem? (i := 24) (by decide +kernel), List.mem_of_getElem? (i := 274) (by decide +kernel), List.mem_of_getElem? (i := 275) (by decide +kernel)⟩
theorem lw_p24 : lw_okq (⟨"EchoedRounds$Row", "append", "(II)V"⟩, 4) := ⟨⟨by decide +kernel, by decide +kernel⟩, List.mem_of_getElem? (i := 82) (by decide +kernel), List.mem_of_getElem? (i := 278) (by decide +kernel), List.mem_of_getElem? (i := 279) (by decide +kernel)⟩
theorem lw_p25 : lw_okq (⟨"EchoedRounds$Node", "goOn", "()Z"⟩, 13) := ⟨⟨by decide +kernel, by decide +kernel⟩, List.mem_of_getElem? (i := 47) (by decide +kernel), List.mem_of_getElem? (i := 282) (by decide +kernel), List.mem_of_getElem? (i := 283) (by decide +kernel)⟩
theorem lw_p26 : lw_okq (⟨"EchoedRounds$Node", "valueAfter", "(I)I"⟩, 13) := ⟨⟨by decide +kernel, by decide +kernel⟩, List.mem_of_getElem? (i := 47) (by decide +kernel), List.mem_of_getElem? (i := 290) (by decide +kernel), List.mem_of_getElem? (i := 291) (by decide +kernel)⟩
theorem lw_p27 : lw_okq (⟨"EchoedRounds$Rules", "prevailing", "(LEchoedRounds$Row;)I"⟩, 4) := ⟨⟨by decide +kernel, by decide +kernel⟩, List.mem_of_getElem? (i := 24) (by decide +kernel), List.mem_of_getElem? (i := 294) (by decide +kernel), List.mem_of_getElem? (i := 295) (by decide +kernel)⟩
theorem lw_p28 : lw_okq (⟨"EchoedRounds$Row", "countInFirst", "(II)I"⟩, 4) := ⟨⟨by decide +kernel, by decide +kernel⟩, List.mem_of_getElem? (i := 82) (by decide +kernel), List.mem_of_getElem? (i := 298) (by decide +kernel), List.mem_of_getElem? (i := 299) (by decide +kernel)⟩
theorem lw_p29 : lw_okq (⟨"EchoedRounds$Rules", "firmOr", "(LEchoedRounds$Row;I)I"⟩, 4) := ⟨⟨by decide +kernel, by decide +kernel⟩, List.mem_of_getElem? (i := 24) (by decide +kernel), List.mem_of_getElem? (i := 302) (by decide +kernel), List.mem_of_getElem? (i := 303) (by decide +kernel)⟩
theorem lw_p30 : lw_okq (⟨"EchoedRounds$Node", "endRound", "(ILEchoedRounds$Row;)I"⟩, 13) := ⟨⟨by decide +kernel, by decide +kernel⟩, List.mem_of_getElem? (i := 47) (by decide +kernel), List.mem_of_getElem? (i := 306) (by decide +kernel), List.mem_of_getElem? (i := 307) (by decide +kernel)⟩
theorem lw_p31 : lw_okq (⟨"EchoedRounds$Rules", "heldFirm", "(LEchoedRounds$Row;I)I"⟩, 4) := ⟨⟨by decide +kernel, by decide +kernel⟩, List.mem_of_getElem? (i := 24) (by decide +kernel), List.mem_of_getElem? (i := 310) (by decide +kernel), List.mem_of_getElem? (i := 311) (by decide +kernel)⟩
def lw_privs_2 : List (MethodName × Nat) := [(⟨"EchoedRounds$Rules", "follows", "(IIILEchoedRounds$Row;)Z"⟩, 4), (⟨"EchoedRounds$Rules", "isFull", "(LEchoedRounds$Row;)Z"⟩, 4), (⟨"EchoedRounds$Rules", "mostChosen", "(LEchoedRounds$Row;I)I"⟩, 4), (⟨"EchoedRounds$Rules", "isMajority", "(I)Z"⟩, 4), (⟨"EchoedRounds$Row", "holdsWith", "(II)Z"⟩, 4), (⟨"EchoedRounds$Rules", "canStayDivided", "(LEchoedRounds$Row;)Z"⟩, 4), (⟨"EchoedRounds$Rules", "canPrevail", "(LEchoedRounds$Row;I)Z"⟩, 4), (⟨"EchoedRounds$Rules", "canNeedToss", "(LEchoedRounds$Row;)Z"⟩, 4), (⟨"EchoedRounds$Row", "append", "(II)V"⟩, 4), (⟨"EchoedRounds$Node", "goOn", "()Z"⟩, 13), (⟨"EchoedRounds$Node", "valueAfter", "(I)I"⟩, 13), (⟨"EchoedRounds$Rules", "prevailing", "(LEchoedRounds$Row;)I"⟩, 4), (⟨"EchoedRounds$Row", "countInFirst", "(II)I"⟩, 4), (⟨"EchoedRounds$Rules", "firmOr", "(LEchoedRounds$Row;I)I"⟩, 4), (⟨"EchoedRounds$Node", "endRound", "(ILEchoedRounds$Row;)I"⟩, 13), (⟨"EchoedRounds$Rules", "heldFirm", "(LEchoedRounds$Row;I)I"⟩, 4)]
theorem lw_r2 : ∀ q ∈ lw_privs_2, lw_okq q := List.forall_mem_cons.mpr ⟨lw_p16, List.forall_mem_cons.mpr ⟨lw_p17, List.forall_mem_cons.mpr ⟨lw_p18, List.forall_mem_cons.mpr ⟨lw_p19, List.forall_mem_cons.mpr ⟨lw_p20, List.forall_mem_cons.mpr ⟨lw_p21, List.forall_mem_cons.mpr ⟨lw_p22, List.forall_mem_cons.mpr ⟨lw_p23, List.forall_mem_cons.mpr ⟨lw_p24, List.forall_mem_cons.mpr ⟨lw_p25, List.forall_mem_cons.mpr ⟨lw_p26, List.forall_mem_cons.mpr ⟨lw_p27, List.forall_mem_cons.mpr ⟨lw_p28, List.forall_mem_cons.mpr ⟨lw_p29, List.forall_mem_cons.mpr ⟨lw_p30, List.forall_mem_cons.mpr ⟨lw_p31, fun _ h => absurd h List.not_mem_nil⟩⟩⟩⟩⟩⟩⟩⟩⟩⟩⟩⟩⟩⟩⟩⟩
theorem lw_p32 : lw_okq (⟨"EchoedRounds$Row", "speakerAt", "(I)I"⟩, 4) := ⟨⟨by decide +kernel, by decide +kernel⟩, List.mem_of_getElem? (i := 82) (by decide +kernel), List.mem_of_getElem? (i := 354) (by decide +kernel), List.mem_of_getElem? (i := 355) (by decide +kernel)⟩
theorem lw_p33 : lw_okq (⟨"EchoedRoundsModel", "well", "(I)Z"⟩, 18) := ⟨⟨by decide +kernel, by decide +kernel⟩, List.mem_of_getElem? (i := 373) (by decide +kernel), List.mem_of_getElem? (i := 438) (by decide +kernel), List.mem_of_getElem? (i := 439) (by decide +kernel)⟩
theorem lw_p34 : lw_okq (⟨"EchoedRoundsModel", "isNode", "(I)Z"⟩, 18) := ⟨⟨by decide +kernel, by decide +kernel⟩, List.mem_of_getElem? (i := 373) (by decide +kernel), List.mem_of_getElem? (i := 442) (by decide +kernel), List.mem_of_getElem? (i := 443) (by decide +kernel)⟩
theorem lw_p35 : lw_okq (⟨"EchoedRoundsModel", "send", "(IIIII)V"⟩, 18) := ⟨⟨by decide +kernel, by decide +kernel⟩, List.mem_of_getElem? (i := 373) (by decide +kernel), List.mem_of_getElem? (i := 454) (by decide +kernel), List.mem_of_getElem? (i := 455) (by decide +kernel)⟩
theorem lw_p36 : lw_okq (⟨"EchoedRoundsModel", "settle", "(I)V"⟩, 18) := ⟨⟨by decide +kernel, by decide +kernel⟩, List.mem_of_getElem? (i := 373) (by decide +kernel), List.mem_of_getElem? (i := 461) (by decide +kernel), List.mem_of_getElem? (i := 462) (by decide +kernel)⟩
theorem lw_p37 : lw_okq (⟨"EchoedRoundsModel", "receiveFromLog", "(II)V"⟩, 18) := ⟨⟨by decide +kernel, by decide +kernel⟩, List.mem_of_getElem? (i := 373) (by decide +kernel), List.mem_of_getElem? (i := 465) (by decide +kernel), List.mem_of_getElem? (i := 466) (by decide +kernel)⟩
theorem lw_p38 : lw_okq (⟨"EchoedRoundsModel", "receive", "(IIIIII)Z"⟩, 18) := ⟨⟨by decide +kernel, by decide +kernel⟩, List.mem_of_getElem? (i := 373) (by decide +kernel), List.mem_of_getElem? (i := 469) (by decide +kernel), List.mem_of_getElem? (i := 470) (by decide +kernel)⟩
theorem lw_p39 : lw_okq (⟨"EchoedRoundsModel", "count", "(IIIII)I"⟩, 18) := ⟨⟨by decide +kernel, by decide +kernel⟩, List.mem_of_getElem? (i := 373) (by decide +kernel), List.mem_of_getElem? (i := 473) (by decide +kernel), List.mem_of_getElem? (i := 474) (by decide +kernel)⟩
theorem lw_p40 : lw_okq (⟨"EchoedRoundsModel", "validate", "(I)Z"⟩, 18) := ⟨⟨by decide +kernel, by decide +kernel⟩, List.mem_of_getElem? (i := 373) (by decide +kernel), List.mem_of_getElem? (i := 477) (by decide +kernel), List.mem_of_getElem? (i := 478) (by decide +kernel)⟩
theorem lw_p41 : lw_okq (⟨"EchoedRoundsModel", "can", "(III)Z"⟩, 18) := ⟨⟨by decide +kernel, by decide +kernel⟩, List.mem_of_getElem? (i := 373) (by decide +kernel), List.mem_of_getElem? (i := 481) (by decide +kernel), List.mem_of_getElem? (i := 482) (by decide +kernel)⟩
theorem lw_p42 : lw_okq (⟨"EchoedRoundsModel", "some", "(III)Z"⟩, 18) := ⟨⟨by decide +kernel, by decide +kernel⟩, List.mem_of_getElem? (i := 373) (by decide +kernel), List.mem_of_getElem? (i := 485) (by decide +kernel), List.mem_of_getElem? (i := 486) (by decide +kernel)⟩
theorem lw_p43 : lw_okq (⟨"EchoedRoundsModel", "setDoes", "(IIII)Z"⟩, 18) := ⟨⟨by decide +kernel, by decide +kernel⟩, List.mem_of_getElem? (i := 373) (by decide +kernel), List.mem_of_getElem? (i := 489) (by decide +kernel), List.mem_of_getElem? (i := 490) (by decide +kernel)⟩
theorem lw_p44 : lw_okq (⟨"EchoedRoundsModel", "goOn", "(I)Z"⟩, 18) := ⟨⟨by decide +kernel, by decide +kernel⟩, List.mem_of_getElem? (i := 373) (by decide +kernel), List.mem_of_getElem? (i := 493) (by decide +kernel), List.mem_of_getElem? (i := 494) (by decide +kernel)⟩
theorem lw_p45 : lw_okq (⟨"EchoedRoundsModel", "afterFirm", "(II)I"⟩, 18) := ⟨⟨by decide +kernel, by decide +kernel⟩, List.mem_of_getElem? (i := 373) (by decide +kernel), List.mem_of_getElem? (i := 497) (by decide +kernel), List.mem_of_getElem? (i := 498) (by decide +kernel)⟩
theorem lw_p46 : lw_okq (⟨"EchoedRoundsModel", "firmValue", "(I)I"⟩, 18) := ⟨⟨by decide +kernel, by decide +kernel⟩, List.mem_of_getElem? (i := 373) (by decide +kernel), List.mem_of_getElem? (i := 501) (by decide +kernel), List.mem_of_getElem? (i := 502) (by decide +kernel)⟩
def lw_privs_3 : List (MethodName × Nat) := [(⟨"EchoedRounds$Row", "speakerAt", "(I)I"⟩, 4), (⟨"EchoedRoundsModel", "well", "(I)Z"⟩, 18), (⟨"EchoedRoundsModel", "isNode", "(I)Z"⟩, 18), (⟨"EchoedRoundsModel", "send", "(IIIII)V"⟩, 18), (⟨"EchoedRoundsModel", "settle", "(I)V"⟩, 18), (⟨"EchoedRoundsModel", "receiveFromLog", "(II)V"⟩, 18), (⟨"EchoedRoundsModel", "receive", "(IIIIII)Z"⟩, 18), (⟨"EchoedRoundsModel", "count", "(IIIII)I"⟩, 18), (⟨"EchoedRoundsModel", "validate", "(I)Z"⟩, 18), (⟨"EchoedRoundsModel", "can", "(III)Z"⟩, 18), (⟨"EchoedRoundsModel", "some", "(III)Z"⟩, 18), (⟨"EchoedRoundsModel", "setDoes", "(IIII)Z"⟩, 18), (⟨"EchoedRoundsModel", "goOn", "(I)Z"⟩, 18), (⟨"EchoedRoundsModel", "afterFirm", "(II)I"⟩, 18), (⟨"EchoedRoundsModel", "firmValue", "(I)I"⟩, 18)]
theorem lw_r3 : ∀ q ∈ lw_privs_3, lw_okq q := List.forall_mem_cons.mpr ⟨lw_p32, List.forall_mem_cons.mpr ⟨lw_p33, List.forall_mem_cons.mpr ⟨lw_p34, List.forall_mem_cons.mpr ⟨lw_p35, List.forall_mem_cons.mpr ⟨lw_p36, List.forall_mem_cons.mpr ⟨lw_p37, List.forall_mem_cons.mpr ⟨lw_p38, List.forall_mem_cons.mpr ⟨lw_p39, List.forall_mem_cons.mpr ⟨lw_p40, List.forall_mem_cons.mpr ⟨lw_p41, List.forall_mem_cons.mpr ⟨lw_p42, List.forall_mem_cons.mpr ⟨lw_p43, List.forall_mem_cons.mpr ⟨lw_p44, List.forall_mem_cons.mpr ⟨lw_p45, List.forall_mem_cons.mpr ⟨lw_p46, fun _ h => absurd h List.not_mem_nil⟩⟩⟩⟩⟩⟩⟩⟩⟩⟩⟩⟩⟩⟩⟩
def lw_privs : List (MethodName × Nat) := lw_privs_1 ++ (lw_privs_2 ++ (lw_privs_3))
def lw_tbl : List Cond := k2_sels lw_privs ++ tables_1
theorem lw_privs_ok : ∀ q ∈ lw_privs, lw_okq q := by
  show ∀ q ∈ lw_privs_1 ++ (lw_privs_2 ++ (lw_privs_3)), lw_okq q
  exact List.forall_mem_append.mpr ⟨lw_r1, List.forall_mem_append.mpr ⟨lw_r2, lw_r3⟩⟩
end
section
/-! names: methods, codes, classes, words; printed by wip/whole/gen/load.py out of the tables -/
def er_fu : Nat := 4096
abbrev b_Rules_init : ByteArray := prog_5_method_1_code
def y_Rules_init : MethodName := ⟨"EchoedRounds$Rules", "<init>", "(I)V"⟩
abbrev b_Log_init : ByteArray := prog_2_method_1_code
def y_Log_init : MethodName := ⟨"EchoedRounds$Log", "<init>", "()V"⟩
abbrev b_Tally_init : ByteArray := prog_6_method_1_code
def y_Tally_init : MethodName := ⟨"EchoedRounds$Tally", "<init>", "()V"⟩
abbrev b_Row_init : ByteArray := prog_4_method_1_code
def y_Row_init : MethodName := ⟨"EchoedRounds$Row", "<init>", "()V"⟩
abbrev b_ER_isNode : ByteArray := prog_1_method_16_code
def y_ER_isNode : MethodName := ⟨"EchoedRounds", "isNode", "(I)Z"⟩
abbrev b_ER_isPlain : ByteArray := prog_1_method_19_code
def y_ER_isPlain : MethodName := ⟨"EchoedRounds", "isPlain", "(I)Z"⟩
abbrev b_ER_codeOf : ByteArray := prog_1_method_21_code
def y_ER_codeOf : MethodName := ⟨"EchoedRounds", "codeOf", "(IIII)I"⟩
abbrev b_Log_append : ByteArray := prog_2_method_2_code
def y_Log_append : MethodName := ⟨"EchoedRounds$Log", "append", "(I)V"⟩
abbrev b_Log_codeAt : ByteArray := prog_2_method_3_code
def y_Log_codeAt : MethodName := ⟨"EchoedRounds$Log", "codeAt", "(I)I"⟩
abbrev b_ER_cellOf : ByteArray := prog_1_method_20_code
def y_ER_cellOf : MethodName := ⟨"EchoedRounds", "cellOf", "(II)I"⟩
abbrev b_Tally_countIn : ByteArray := prog_6_method_2_code
def y_Tally_countIn : MethodName := ⟨"EchoedRounds$Tally", "countIn", "(IIII)Z"⟩
abbrev b_Tally_count : ByteArray := prog_6_method_3_code
def y_Tally_count : MethodName := ⟨"EchoedRounds$Tally", "count", "(III)I"⟩
abbrev b_Row_holds : ByteArray := prog_4_method_4_code
def y_Row_holds : MethodName := ⟨"EchoedRounds$Row", "holds", "(I)Z"⟩
abbrev b_Rules_isFull : ByteArray := prog_5_method_3_code
def y_Rules_isFull : MethodName := ⟨"EchoedRounds$Rules", "isFull", "(LEchoedRounds$Row;)Z"⟩
abbrev b_Rules_mostChosen : ByteArray := prog_5_method_5_code
def y_Rules_mostChosen : MethodName := ⟨"EchoedRounds$Rules", "mostChosen", "(LEchoedRounds$Row;I)I"⟩
abbrev b_Rules_isMajority : ByteArray := prog_5_method_2_code
def y_Rules_isMajority : MethodName := ⟨"EchoedRounds$Rules", "isMajority", "(I)Z"⟩
abbrev b_Row_holdsWith : ByteArray := prog_4_method_5_code
def y_Row_holdsWith : MethodName := ⟨"EchoedRounds$Row", "holdsWith", "(II)Z"⟩
abbrev b_Rules_canStayDivided : ByteArray := prog_5_method_7_code
def y_Rules_canStayDivided : MethodName := ⟨"EchoedRounds$Rules", "canStayDivided", "(LEchoedRounds$Row;)Z"⟩
abbrev b_Rules_canNeedToss : ByteArray := prog_5_method_8_code
def y_Rules_canNeedToss : MethodName := ⟨"EchoedRounds$Rules", "canNeedToss", "(LEchoedRounds$Row;)Z"⟩
abbrev b_Row_append : ByteArray := prog_4_method_2_code
def y_Row_append : MethodName := ⟨"EchoedRounds$Row", "append", "(II)V"⟩
abbrev b_ER_isSlot : ByteArray := prog_1_method_18_code
def y_ER_isSlot : MethodName := ⟨"EchoedRounds", "isSlot", "(I)Z"⟩
abbrev b_Row_countInFirst : ByteArray := prog_4_method_6_code
def y_Row_countInFirst : MethodName := ⟨"EchoedRounds$Row", "countInFirst", "(II)I"⟩
abbrev b_Row_speakerAt : ByteArray := prog_4_method_3_code
def y_Row_speakerAt : MethodName := ⟨"EchoedRounds$Row", "speakerAt", "(I)I"⟩
abbrev b_Law_cell : ByteArray := method_2_code
def y_Law_cell : MethodName := ⟨"EchoedRoundsLaw", "cell", "([II)I"⟩
abbrev b_Mo_init : ByteArray := prog_8_method_1_code
def y_Mo_init : MethodName := ⟨"EchoedRoundsModel", "<init>", "(I)V"⟩
abbrev b_Mo_isNode : ByteArray := prog_8_method_2_code
def y_Mo_isNode : MethodName := ⟨"EchoedRoundsModel", "isNode", "(I)Z"⟩
abbrev b_Mo_at : ByteArray := prog_8_method_4_code
def y_Mo_at : MethodName := ⟨"EchoedRoundsModel", "at", "(III)I"⟩
abbrev b_Mo_count : ByteArray := prog_8_method_6_code
def y_Mo_count : MethodName := ⟨"EchoedRoundsModel", "count", "(IIIII)I"⟩
abbrev b_Mo_firmValue : ByteArray := prog_8_method_13_code
def y_Mo_firmValue : MethodName := ⟨"EchoedRoundsModel", "firmValue", "(I)I"⟩
abbrev b_Mo_isSlot : ByteArray := prog_8_method_25_code
def y_Mo_isSlot : MethodName := ⟨"EchoedRoundsModel", "isSlot", "(I)Z"⟩
abbrev b_Node_init : ByteArray := prog_3_method_1_code
def y_Node_init : MethodName := ⟨"EchoedRounds$Node", "<init>", "(ILEchoedRounds$Rules;)V"⟩
abbrev b_ER_isWellBehaved : ByteArray := prog_1_method_17_code
def y_ER_isWellBehaved : MethodName := ⟨"EchoedRounds", "isWellBehaved", "(I)Z"⟩
abbrev b_Node_enter : ByteArray := prog_3_method_2_code
def y_Node_enter : MethodName := ⟨"EchoedRounds$Node", "enter", "(II)V"⟩
abbrev b_Node_sendReadyOnce : ByteArray := prog_3_method_7_code
def y_Node_sendReadyOnce : MethodName := ⟨"EchoedRounds$Node", "sendReadyOnce", "(III)V"⟩
abbrev b_Rules_canPrevail : ByteArray := prog_5_method_6_code
def y_Rules_canPrevail : MethodName := ⟨"EchoedRounds$Rules", "canPrevail", "(LEchoedRounds$Row;I)Z"⟩
abbrev b_Rules_prevailing : ByteArray := prog_5_method_9_code
def y_Rules_prevailing : MethodName := ⟨"EchoedRounds$Rules", "prevailing", "(LEchoedRounds$Row;)I"⟩
abbrev b_Rules_firmOr : ByteArray := prog_5_method_10_code
def y_Rules_firmOr : MethodName := ⟨"EchoedRounds$Rules", "firmOr", "(LEchoedRounds$Row;I)I"⟩
abbrev b_Rules_heldFirm : ByteArray := prog_5_method_11_code
def y_Rules_heldFirm : MethodName := ⟨"EchoedRounds$Rules", "heldFirm", "(LEchoedRounds$Row;I)I"⟩
abbrev b_ER_sent : ByteArray := prog_1_method_7_code
def y_ER_sent : MethodName := ⟨"EchoedRounds", "sent", "(I)I"⟩
abbrev b_ER_message : ByteArray := prog_1_method_8_code
def y_ER_message : MethodName := ⟨"EchoedRounds", "message", "(II)I"⟩
abbrev b_ER_waiting : ByteArray := prog_1_method_9_code
def y_ER_waiting : MethodName := ⟨"EchoedRounds", "waiting", "(II)I"⟩
abbrev b_ER_votes : ByteArray := prog_1_method_10_code
def y_ER_votes : MethodName := ⟨"EchoedRounds", "votes", "(IIIIZ)I"⟩
abbrev b_ER_accepted : ByteArray := prog_1_method_11_code
def y_ER_accepted : MethodName := ⟨"EchoedRounds", "accepted", "(III)I"⟩
abbrev b_ER_rowAt : ByteArray := prog_1_method_12_code
def y_ER_rowAt : MethodName := ⟨"EchoedRounds", "rowAt", "(III)I"⟩
abbrev b_ER_slot : ByteArray := prog_1_method_13_code
def y_ER_slot : MethodName := ⟨"EchoedRounds", "slot", "(I)I"⟩
abbrev b_ER_value : ByteArray := prog_1_method_14_code
def y_ER_value : MethodName := ⟨"EchoedRounds", "value", "(I)I"⟩
abbrev b_ER_decided : ByteArray := prog_1_method_15_code
def y_ER_decided : MethodName := ⟨"EchoedRounds", "decided", "(I)I"⟩
abbrev b_Mo_well : ByteArray := prog_8_method_3_code
def y_Mo_well : MethodName := ⟨"EchoedRoundsModel", "well", "(I)Z"⟩
abbrev b_Mo_send : ByteArray := prog_8_method_5_code
def y_Mo_send : MethodName := ⟨"EchoedRoundsModel", "send", "(IIIII)V"⟩
abbrev b_Mo_setDoes : ByteArray := prog_8_method_9_code
def y_Mo_setDoes : MethodName := ⟨"EchoedRoundsModel", "setDoes", "(IIII)Z"⟩
abbrev b_Mo_afterFirm : ByteArray := prog_8_method_14_code
def y_Mo_afterFirm : MethodName := ⟨"EchoedRoundsModel", "afterFirm", "(II)I"⟩
abbrev b_Mo_sent : ByteArray := prog_8_method_22_code
def y_Mo_sent : MethodName := ⟨"EchoedRoundsModel", "sent", "(I)I"⟩
abbrev b_Mo_message : ByteArray := prog_8_method_23_code
def y_Mo_message : MethodName := ⟨"EchoedRoundsModel", "message", "(II)I"⟩
abbrev b_Mo_waiting : ByteArray := prog_8_method_24_code
def y_Mo_waiting : MethodName := ⟨"EchoedRoundsModel", "waiting", "(II)I"⟩
abbrev b_Mo_votes : ByteArray := prog_8_method_26_code
def y_Mo_votes : MethodName := ⟨"EchoedRoundsModel", "votes", "(IIIIZ)I"⟩
abbrev b_Mo_accepted : ByteArray := prog_8_method_27_code
def y_Mo_accepted : MethodName := ⟨"EchoedRoundsModel", "accepted", "(III)I"⟩
abbrev b_Mo_rowAt : ByteArray := prog_8_method_28_code
def y_Mo_rowAt : MethodName := ⟨"EchoedRoundsModel", "rowAt", "(III)I"⟩
abbrev b_Mo_slot : ByteArray := prog_8_method_29_code
def y_Mo_slot : MethodName := ⟨"EchoedRoundsModel", "slot", "(I)I"⟩
abbrev b_Mo_value : ByteArray := prog_8_method_30_code
def y_Mo_value : MethodName := ⟨"EchoedRoundsModel", "value", "(I)I"⟩
abbrev b_Mo_decided : ByteArray := prog_8_method_31_code
def y_Mo_decided : MethodName := ⟨"EchoedRoundsModel", "decided", "(I)I"⟩
abbrev b_ER_init : ByteArray := prog_1_method_1_code
def y_ER_init : MethodName := ⟨"EchoedRounds", "<init>", "(I)V"⟩
abbrev b_ER_corrupt : ByteArray := prog_1_method_2_code
def y_ER_corrupt : MethodName := ⟨"EchoedRounds", "corrupt", "(I)Z"⟩
abbrev b_ER_tosses : ByteArray := prog_1_method_3_code
def y_ER_tosses : MethodName := ⟨"EchoedRounds", "tosses", "(II)Z"⟩
abbrev b_Node_hearEcho : ByteArray := prog_3_method_5_code
def y_Node_hearEcho : MethodName := ⟨"EchoedRounds$Node", "hearEcho", "(III)V"⟩
abbrev b_Node_hearReady : ByteArray := prog_3_method_6_code
def y_Node_hearReady : MethodName := ⟨"EchoedRounds$Node", "hearReady", "(III)V"⟩
abbrev b_Rules_follows : ByteArray := prog_5_method_4_code
def y_Rules_follows : MethodName := ⟨"EchoedRounds$Rules", "follows", "(IIILEchoedRounds$Row;)Z"⟩
abbrev b_Node_endRound : ByteArray := prog_3_method_13_code
def y_Node_endRound : MethodName := ⟨"EchoedRounds$Node", "endRound", "(ILEchoedRounds$Row;)I"⟩
abbrev b_Mo_corrupt : ByteArray := prog_8_method_17_code
def y_Mo_corrupt : MethodName := ⟨"EchoedRoundsModel", "corrupt", "(I)Z"⟩
abbrev b_Mo_tosses : ByteArray := prog_8_method_18_code
def y_Mo_tosses : MethodName := ⟨"EchoedRoundsModel", "tosses", "(II)Z"⟩
abbrev b_Mo_receive : ByteArray := prog_8_method_7_code
def y_Mo_receive : MethodName := ⟨"EchoedRoundsModel", "receive", "(IIIIII)Z"⟩
abbrev b_Mo_some : ByteArray := prog_8_method_10_code
def y_Mo_some : MethodName := ⟨"EchoedRoundsModel", "some", "(III)Z"⟩
abbrev b_Mo_goOn : ByteArray := prog_8_method_15_code
def y_Mo_goOn : MethodName := ⟨"EchoedRoundsModel", "goOn", "(I)Z"⟩
abbrev b_Node_hear : ByteArray := prog_3_method_4_code
def y_Node_hear : MethodName := ⟨"EchoedRounds$Node", "hear", "(II)Z"⟩
abbrev b_Node_canBecomeValid : ByteArray := prog_3_method_10_code
def y_Node_canBecomeValid : MethodName := ⟨"EchoedRounds$Node", "canBecomeValid", "(II)Z"⟩
abbrev b_Node_valueAfter : ByteArray := prog_3_method_12_code
def y_Node_valueAfter : MethodName := ⟨"EchoedRounds$Node", "valueAfter", "(I)I"⟩
abbrev b_Mo_receiveFromLog : ByteArray := prog_8_method_8_code
def y_Mo_receiveFromLog : MethodName := ⟨"EchoedRoundsModel", "receiveFromLog", "(II)V"⟩
abbrev b_Mo_can : ByteArray := prog_8_method_11_code
def y_Mo_can : MethodName := ⟨"EchoedRoundsModel", "can", "(III)Z"⟩
abbrev b_Node_hearNextOf : ByteArray := prog_3_method_3_code
def y_Node_hearNextOf : MethodName := ⟨"EchoedRounds$Node", "hearNextOf", "(ILEchoedRounds$Log;)Z"⟩
abbrev b_Node_makeOneValid : ByteArray := prog_3_method_9_code
def y_Node_makeOneValid : MethodName := ⟨"EchoedRounds$Node", "makeOneValid", "()Z"⟩
abbrev b_Node_goOn : ByteArray := prog_3_method_11_code
def y_Node_goOn : MethodName := ⟨"EchoedRounds$Node", "goOn", "()Z"⟩
abbrev b_Mo_validate : ByteArray := prog_8_method_12_code
def y_Mo_validate : MethodName := ⟨"EchoedRoundsModel", "validate", "(I)Z"⟩
abbrev b_Node_settle : ByteArray := prog_3_method_8_code
def y_Node_settle : MethodName := ⟨"EchoedRounds$Node", "settle", "()V"⟩
abbrev b_Mo_settle : ByteArray := prog_8_method_16_code
def y_Mo_settle : MethodName := ⟨"EchoedRoundsModel", "settle", "(I)V"⟩
abbrev b_ER_start : ByteArray := prog_1_method_4_code
def y_ER_start : MethodName := ⟨"EchoedRounds", "start", "(II)Z"⟩
abbrev b_ER_pass : ByteArray := prog_1_method_5_code
def y_ER_pass : MethodName := ⟨"EchoedRounds", "pass", "(III)I"⟩
abbrev b_ER_forge : ByteArray := prog_1_method_6_code
def y_ER_forge : MethodName := ⟨"EchoedRounds", "forge", "(IIIII)Z"⟩
abbrev b_Mo_start : ByteArray := prog_8_method_19_code
def y_Mo_start : MethodName := ⟨"EchoedRoundsModel", "start", "(II)Z"⟩
abbrev b_Mo_pass : ByteArray := prog_8_method_20_code
def y_Mo_pass : MethodName := ⟨"EchoedRoundsModel", "pass", "(III)I"⟩
abbrev b_Mo_forge : ByteArray := prog_8_method_21_code
def y_Mo_forge : MethodName := ⟨"EchoedRoundsModel", "forge", "(IIIII)Z"⟩
def F_ER : u_T := fun k => match k with
  | _ => ("EchoedRounds", "nodes", "[LEchoedRounds$Node;", true)
def t_ER : Nat → FieldType := fun k => match k with
  | _ => .array (.object "EchoedRounds$Node")
def F_Rules : u_T := fun k => match k with
  | 0 => ("EchoedRounds$Rules", "count", "I", true)
  | 1 => ("EchoedRounds$Rules", "liars", "I", true)
  | 2 => ("EchoedRounds$Rules", "chosen", "I", true)
  | _ => ("EchoedRounds$Rules", "echoesForReady", "I", true)
def t_Rules : Nat → FieldType := fun k => match k with
  | 0 => .int
  | 1 => .int
  | 2 => .int
  | _ => .int
def F_Node : u_T := fun k => match k with
  | 0 => ("EchoedRounds$Node", "self", "I", true)
  | 1 => ("EchoedRounds$Node", "rules", "LEchoedRounds$Rules;", true)
  | 2 => ("EchoedRounds$Node", "log", "LEchoedRounds$Log;", true)
  | 3 => ("EchoedRounds$Node", "tally", "LEchoedRounds$Tally;", true)
  | 4 => ("EchoedRounds$Node", "heardOf", "[I", true)
  | 5 => ("EchoedRounds$Node", "readied", "[Z", true)
  | 6 => ("EchoedRounds$Node", "taken", "[I", true)
  | 7 => ("EchoedRounds$Node", "rows", "[LEchoedRounds$Row;", true)
  | 8 => ("EchoedRounds$Node", "wellBehaved", "Z", false)
  | 9 => ("EchoedRounds$Node", "tossBits", "I", false)
  | 10 => ("EchoedRounds$Node", "currentSlot", "I", false)
  | 11 => ("EchoedRounds$Node", "currentValue", "I", false)
  | _ => ("EchoedRounds$Node", "decision", "I", false)
def t_Node : Nat → FieldType := fun k => match k with
  | 0 => .int
  | 1 => .object "EchoedRounds$Rules"
  | 2 => .object "EchoedRounds$Log"
  | 3 => .object "EchoedRounds$Tally"
  | 4 => .array .int
  | 5 => .array .boolean
  | 6 => .array .int
  | 7 => .array (.object "EchoedRounds$Row")
  | 8 => .boolean
  | 9 => .int
  | 10 => .int
  | 11 => .int
  | _ => .int
def F_Log : u_T := fun k => match k with
  | 0 => ("EchoedRounds$Log", "codes", "[I", true)
  | _ => ("EchoedRounds$Log", "size", "I", false)
def t_Log : Nat → FieldType := fun k => match k with
  | 0 => .array .int
  | _ => .int
def F_Tally : u_T := fun k => match k with
  | 0 => ("EchoedRounds$Tally", "senders", "[I", true)
  | _ => ("EchoedRounds$Tally", "counts", "[I", true)
def t_Tally : Nat → FieldType := fun k => match k with
  | 0 => .array .int
  | _ => .array .int
def F_Row : u_T := fun k => match k with
  | 0 => ("EchoedRounds$Row", "speakers", "[I", true)
  | 1 => ("EchoedRounds$Row", "said", "[I", true)
  | 2 => ("EchoedRounds$Row", "counts", "[I", true)
  | _ => ("EchoedRounds$Row", "size", "I", false)
def t_Row : Nat → FieldType := fun k => match k with
  | 0 => .array .int
  | 1 => .array .int
  | 2 => .array .int
  | _ => .int
def F_Mo : u_T := fun k => match k with
  | 0 => ("EchoedRoundsModel", "nodes", "I", true)
  | 1 => ("EchoedRoundsModel", "faults", "I", true)
  | 2 => ("EchoedRoundsModel", "ill", "[Z", true)
  | 3 => ("EchoedRoundsModel", "logs", "[I", true)
  | 4 => ("EchoedRoundsModel", "sizes", "[I", true)
  | 5 => ("EchoedRoundsModel", "got", "[I", true)
  | 6 => ("EchoedRoundsModel", "heardSaying", "[Z", true)
  | 7 => ("EchoedRoundsModel", "sentReady", "[Z", true)
  | 8 => ("EchoedRoundsModel", "accepts", "[I", true)
  | 9 => ("EchoedRoundsModel", "valid", "[Z", true)
  | 10 => ("EchoedRoundsModel", "rows", "[I", true)
  | 11 => ("EchoedRoundsModel", "rowSizes", "[I", true)
  | 12 => ("EchoedRoundsModel", "heard", "[I", true)
  | 13 => ("EchoedRoundsModel", "slots", "[I", true)
  | 14 => ("EchoedRoundsModel", "values", "[I", true)
  | 15 => ("EchoedRoundsModel", "decisions", "[I", true)
  | 16 => ("EchoedRoundsModel", "toss", "[I", true)
  | _ => ("EchoedRoundsModel", "chosen", "[I", true)
def t_Mo : Nat → FieldType := fun k => match k with
  | 0 => .int
  | 1 => .int
  | 2 => .array .boolean
  | 3 => .array .int
  | 4 => .array .int
  | 5 => .array .int
  | 6 => .array .boolean
  | 7 => .array .boolean
  | 8 => .array .int
  | 9 => .array .boolean
  | 10 => .array .int
  | 11 => .array .int
  | 12 => .array .int
  | 13 => .array .int
  | 14 => .array .int
  | 15 => .array .int
  | 16 => .array .int
  | _ => .array .int
abbrev classes : List vw_C := [("EchoedRounds", F_ER, 1), ("EchoedRounds$Rules", F_Rules, 4), ("EchoedRounds$Node", F_Node, 13), ("EchoedRounds$Log", F_Log, 2), ("EchoedRounds$Tally", F_Tally, 2), ("EchoedRounds$Row", F_Row, 4), ("EchoedRoundsModel", F_Mo, 18)]
def er_nf (ci : Nat) : Nat := match ci with
  | 0 => 1
  | 1 => 4
  | 2 => 13
  | 3 => 2
  | 4 => 2
  | 5 => 4
  | 6 => 18
  | _ => 0
def er_rf (ci j : Nat) : Bool := match ci with
  | 0 => decide (0 ≤ j) && decide (j ≤ 0)
  | 1 => false
  | 2 => decide (1 ≤ j) && decide (j ≤ 7)
  | 3 => decide (0 ≤ j) && decide (j ≤ 0)
  | 4 => decide (0 ≤ j) && decide (j ≤ 1)
  | 5 => decide (0 ≤ j) && decide (j ≤ 2)
  | 6 => decide (2 ≤ j) && decide (j ≤ 17)
  | _ => false
def er_O2 : String := "EchoedRounds$Node"
def er_O3 : String := "EchoedRounds$Row"
def er_AOs : List String := [er_O2, er_O3]
def er_T : List Cond := lw_tbl.filter goodWord
def er_isN (w : Cond) : Bool := match w with
  | .fieldLinkNest _ _ _ _ _ _ => true
  | .methodLinkNest _ _ _ _ => true
  | _ => false
def er_Ns : List Cond := tables_1.filter er_isN
theorem er_NsN : er_Ns.all er_isN = true := List.all_eq_true.mpr fun w h => (List.mem_filter.mp h).2
theorem er_good : GoodIn er_T er_T := fun w hw => ⟨hw, good_of_word (List.mem_filter.mp hw).2⟩
theorem er_inT {w : Cond} (i : Nat) (h : tables_1[i]? = some w) (g : goodWord w = true) : w ∈ er_T := List.mem_filter.mpr ⟨List.mem_append_right _ (List.mem_of_getElem? h), g⟩
theorem er_inN {w : Cond} (i : Nat) (h : tables_1[i]? = some w) (g : er_isN w = true) : w ∈ er_Ns := List.mem_filter.mpr ⟨List.mem_of_getElem? h, g⟩
end
section
/-! memory: T holds kinds (at -2), lengths (at -1), references (T 0 0: how many cells); M the ints. A cell a of the memory lies at the heap's base + a; 0 is the script. er_nf, er_rf: fields of a class and which are references (part 08) -/
abbrev er_V : Type := Int ⊕ Int
abbrev er_Me : Type := Int → Int → Int
abbrev er_Ba : Type := Nat × Nat × Nat × (Nat → Int32)
abbrev er_X : Type := va_G × (Nat → ClassId) × er_Ba
abbrev er_rg (x : Int) : Prop := -2147483648 ≤ x ∧ x < 2147483648
def er_ok (v : er_V) : Prop := match v with
  | .inl x => er_rg x
  | .inr _ => True
def er_ad (X : er_X) (a : Int) : Nat := if a = 0 then X.2.2.2.1 else X.2.2.1 + a.toNat
def er_cv (X : er_X) (v : er_V) : Value := match v with
  | .inl x => .int (Int32.ofInt x)
  | .inr a => .ref (er_ad X a)
def er_ro (X : er_X) (x : Int) : Option Nat := if x ≤ 0 then none else some (er_ad X x)
def er_sv (X : er_X) (T M : er_Me) (a : Int) (r : Bool) (j : Nat) : Value := if r = true then va_rf (er_ro X (T a j)) else .int (Int32.ofInt (M a j))
def er_fs (X : er_X) (T M : er_Me) (a : Int) (ci : Nat) : List Value := (List.range (er_nf ci)).map fun j => er_sv X T M a (er_rf ci j) j
def er_cell (X : er_X) (T M : er_Me) (a : Int) : va_E :=
  if T a (-2) ≤ 100 then .inr ((T a (-2)).toNat - 1, er_fs X T M a ((T a (-2)).toNat - 1))
  else if T a (-2) ≤ 102 then .inl (X.2.1 ((T a (-2)).toNat - 101), (T a (-1)).toNat, .inl fun i => Int32.ofInt (M a i))
  else .inl (X.2.1 ((T a (-2)).toNat - 101), (T a (-1)).toNat, .inr (.inr (.inr (.inr fun i => er_ro X (T a i)))))
def er_ws (X : er_X) (T M : er_Me) : va_W := (List.range (T 0 0).toNat).map fun i => (X.2.2.1 + (i + 1), er_cell X T M ((i : Int) + 1))
def er_up (M : er_Me) (a i v : Int) : er_Me := fun a' i' => if a' = a ∧ i' = i then v else M a' i'
def er_nw (T : er_Me) (kind len : Int) : er_Me := fun a i => if a = T 0 0 + 1 then (if i = -1 then len else if i = -2 then kind else 0) else if a = 0 ∧ i = 0 then T 0 0 + 1 else T a i
def er_mw (M : er_Me) (b : Int) : er_Me := fun a i => if a = b then 0 else M a i
def er_Rg (T M : er_Me) : Prop := (∀ a i, er_rg (M a i)) ∧ (∀ a, T a (-2) ≠ 0 → 0 < a ∧ a ≤ T 0 0) ∧ (∀ a, 0 ≤ T a (-1) ∧ T a (-1) < 2147483648) ∧ 0 ≤ T 0 0
def er_A (X : er_X) : Nat → Prop := fun q => X.2.2.1 < q
def er_lv (X : er_X) (L : List (Nat × er_V)) : List (Nat × Value) := L.map fun q => (q.1, er_cv X q.2)
def er_st (X : er_X) (st : List er_V) : List Value := st.map (er_cv X)
def er_tys (X : er_X) : List (ClassId × FieldType) := [(X.2.1 0, .int), (X.2.1 1, .boolean), (X.2.1 2, .object er_O2), (X.2.1 3, .object er_O3)]
-- arithmetic: what the machine makes of two ints
def er_w (x : Int) : Int := (Int32.ofInt x).toInt
def er_add (x y : Int) : Int := (Int32.ofInt x + Int32.ofInt y).toInt
def er_sub (x y : Int) : Int := (Int32.ofInt x - Int32.ofInt y).toInt
def er_mul (x y : Int) : Int := (Int32.ofInt x * Int32.ofInt y).toInt
def er_div (x y : Int) : Int := (Int32.ofInt x / Int32.ofInt y).toInt
def er_rem (x y : Int) : Int := (Int32.ofInt x - Int32.ofInt x / Int32.ofInt y * Int32.ofInt y).toInt
def er_and (x y : Int) : Int := (Int32.ofInt x &&& Int32.ofInt y).toInt
def er_or (x y : Int) : Int := (Int32.ofInt x ||| Int32.ofInt y).toInt
def er_shl (x y : Int) : Int := (Int32.ofInt x <<< (Int32.ofInt y &&& 31)).toInt
def er_shr (x y : Int) : Int := (Int32.ofInt x >>> (Int32.ofInt y &&& 31)).toInt
def er_max (x y : Int) : Int := if x < y then y else x
def er_min (x y : Int) : Int := if y < x then y else x
theorem er_rgI (q : Int32) : er_rg q.toInt := ⟨Int32.le_toInt q, Int32.toInt_lt q⟩
theorem er_cvI {X : er_X} (q : Int32) : er_cv X (.inl q.toInt) = .int q := by
  show Value.int (Int32.ofInt q.toInt) = Value.int q
  rw [Int32.ofInt_toInt]
theorem er_wI {x : Int} (h : er_rg x) : (Int32.ofInt x).toInt = x := Int32.toInt_ofInt_of_le h.1 h.2
theorem er_eqI {x y : Int} (hx : er_rg x) (hy : er_rg y) : Int32.ofInt x = Int32.ofInt y ↔ x = y := ⟨fun h => by rw [← er_wI hx, ← er_wI hy, h], fun h => by rw [h]⟩
theorem er_ltI {x y : Int} (hx : er_rg x) (hy : er_rg y) : Int32.ofInt x < Int32.ofInt y ↔ x < y := by rw [Int32.lt_iff_toInt_lt, er_wI hx, er_wI hy]
theorem er_leI {x y : Int} (hx : er_rg x) (hy : er_rg y) : Int32.ofInt x ≤ Int32.ofInt y ↔ x ≤ y := by rw [Int32.le_iff_toInt_le, er_wI hx, er_wI hy]
theorem er_rg0 : er_rg 0 := by unfold er_rg; omega
theorem er_i0 : Int32.ofInt 0 = 0 := by decide +kernel
theorem er_nIo (n : Nat) : Int32.ofInt (n : Int) = nI n := Int32.ofInt_eq_ofNat
theorem er_clI {i : Int} (h0 : 0 ≤ i) (h1 : i < 2147483648) : (Int32.ofInt i).toNatClampNeg = i.toNat := by
  obtain ⟨n, rfl⟩ := Int.eq_ofNat_of_zero_le h0
  rw [er_nIo, nI_clamp (by omega)]
  rfl
theorem er_inI {i n : Int} (h0 : 0 ≤ i) (h1 : i < n) (hn : n < 2147483648) : vp_in (Int32.ofInt i) n.toNat := by
  obtain ⟨k, rfl⟩ := Int.eq_ofNat_of_zero_le h0
  rw [er_nIo]
  exact nI_in (by omega) (by omega)
theorem er_cat (X : er_X) (v : er_V) : (er_cv X v).category = 1 := by cases v <;> rfl
-- the world's list
theorem er_len (X : er_X) (T M : er_Me) : (er_ws X T M).length = (T 0 0).toNat := by simp [er_ws]
theorem er_wsI {X : er_X} {T M : er_Me} {i : Nat} (h : i < (T 0 0).toNat) : (er_ws X T M)[i]? = some (X.2.2.1 + (i + 1), er_cell X T M ((i : Int) + 1)) := by
  rw [er_ws, List.getElem?_map, List.getElem?_range h]
  rfl
theorem er_at {X : er_X} {T M : er_Me} (hg : er_Rg T M) {a : Int} (hk : T a (-2) ≠ 0) : (er_ws X T M)[a.toNat - 1]? = some (er_ad X a, er_cell X T M a) := by
  obtain ⟨h0, h1⟩ := hg.2.1 a hk
  rw [er_wsI (by omega)]
  have e1 : (((a.toNat - 1 : Nat) : Int) + 1) = a := by omega
  have e2 : X.2.2.1 + (a.toNat - 1 + 1) = er_ad X a := by unfold er_ad; rw [if_neg (by omega)]; omega
  rw [e1, e2]
theorem er_Dw (X : er_X) (T M : er_Me) : va_D (er_A X) (er_ws X T M) := by
  have key : ∀ (i : Nat) (q : Nat × va_E), (er_ws X T M)[i]? = some q → q.1 = X.2.2.1 + (i + 1) := by
    intro i q h
    have hi : i < (T 0 0).toNat := by
      have := (List.getElem?_eq_some_iff.mp h).1
      rw [er_len] at this
      exact this
    rw [er_wsI hi] at h
    rw [← Option.some.inj h]
  refine ⟨fun i j p q hi hj e => ?_, fun k q hk => ?_⟩
  · have h1 := key i p hi
    have h2 := key j q hj
    omega
  · have h1 := key k q hk
    show X.2.2.1 < q.1
    omega
theorem er_set {X : er_X} {T M T' M' : er_Me} {a : Int} (h0 : 0 < a) (hT : T' 0 0 = T 0 0) (ho : ∀ a' : Int, a' ≠ a → 0 < a' → er_cell X T' M' a' = er_cell X T M a') : (er_ws X T M).set (a.toNat - 1) (er_ad X a, er_cell X T' M' a) = er_ws X T' M' := by
  apply List.ext_getElem?
  intro i
  by_cases hi : i < (T 0 0).toNat
  · rw [er_wsI (T := T') (M := M') (by rw [hT]; exact hi), List.getElem?_set]
    by_cases h : a.toNat - 1 = i
    · rw [if_pos h, if_pos (by rw [er_len]; omega)]
      have e1 : ((i : Int) + 1) = a := by omega
      have e2 : X.2.2.1 + (i + 1) = er_ad X a := by unfold er_ad; rw [if_neg (by omega)]; omega
      rw [e1, e2]
    · rw [if_neg h, er_wsI hi, ho _ (by omega) (by omega)]
  · rw [List.getElem?_eq_none (by rw [List.length_set, er_len]; omega), List.getElem?_eq_none (by rw [er_len, hT]; omega)]
theorem er_cellM {X : er_X} {T M : er_Me} {a i v a' : Int} (h : a' ≠ a) : er_cell X T (er_up M a i v) a' = er_cell X T M a' := by
  unfold er_cell er_fs er_sv er_up
  simp only [h, false_and, if_false]
theorem er_cellT {X : er_X} {T M : er_Me} {a i v a' : Int} (h : a' ≠ a) : er_cell X (er_up T a i v) M a' = er_cell X T M a' := by
  unfold er_cell er_fs er_sv er_up
  simp only [h, false_and, if_false]
theorem er_cellO {X : er_X} {T M : er_Me} {a : Int} {ci : Nat} (h : T a (-2) = (ci : Int) + 1) (hc : ci < 100) : er_cell X T M a = .inr (ci, er_fs X T M a ci) := by
  unfold er_cell
  rw [if_pos (by omega), show (T a (-2)).toNat - 1 = ci by omega]
theorem er_cellI {X : er_X} {T M : er_Me} {a : Int} {t : Nat} (h : T a (-2) = (t : Int) + 101) (ht : t < 2) : er_cell X T M a = .inl (X.2.1 t, (T a (-1)).toNat, .inl fun i => Int32.ofInt (M a i)) := by
  unfold er_cell
  rw [if_neg (by omega), if_pos (by omega), show (T a (-2)).toNat - 101 = t by omega]
theorem er_cellR {X : er_X} {T M : er_Me} {a : Int} {t : Nat} (h : T a (-2) = (t : Int) + 101) (ht : 2 ≤ t) : er_cell X T M a = .inl (X.2.1 t, (T a (-1)).toNat, .inr (.inr (.inr (.inr fun i => er_ro X (T a i))))) := by
  unfold er_cell
  rw [if_neg (by omega), if_neg (by omega), show (T a (-2)).toNat - 101 = t by omega]
theorem er_fsA {X : er_X} {T M : er_Me} {a : Int} {ci j : Nat} (h : j < er_nf ci) : (er_fs X T M a ci)[j]? = some (er_sv X T M a (er_rf ci j) j) := by
  rw [er_fs, List.getElem?_map, List.getElem?_range h]
  rfl
theorem er_fsL (X : er_X) (T M : er_Me) (a : Int) (ci : Nat) : (er_fs X T M a ci).length = er_nf ci := by simp [er_fs]
theorem er_fsM {X : er_X} {T M : er_Me} {a x : Int} {ci k : Nat} (hr : er_rf ci k = false) : (er_fs X T M a ci).set k (.int (Int32.ofInt x)) = er_fs X T (er_up M a k x) a ci := by
  apply List.ext_getElem?
  intro j
  by_cases hj : j < er_nf ci
  · rw [er_fsA hj, List.getElem?_set]
    by_cases h : k = j
    · subst h
      rw [if_pos rfl, if_pos (by rw [er_fsL]; exact hj)]
      simp [er_sv, hr, er_up]
    · rw [if_neg h, er_fsA hj]
      have : ¬ ((j : Int) = (k : Int)) := by omega
      simp [er_sv, er_up, this]
  · rw [List.getElem?_eq_none (by rw [List.length_set, er_fsL]; omega), List.getElem?_eq_none (by rw [er_fsL]; omega)]
theorem er_fsT {X : er_X} {T M : er_Me} {a y : Int} {ci k : Nat} (hr : er_rf ci k = true) (hy : 0 < y) : (er_fs X T M a ci).set k (.ref (er_ad X y)) = er_fs X (er_up T a k y) M a ci := by
  apply List.ext_getElem?
  intro j
  by_cases hj : j < er_nf ci
  · rw [er_fsA hj, List.getElem?_set]
    by_cases h : k = j
    · subst h
      rw [if_pos rfl, if_pos (by rw [er_fsL]; exact hj)]
      have : ¬ y ≤ 0 := by omega
      simp [er_sv, hr, er_up, er_ro, va_rf, this]
    · rw [if_neg h, er_fsA hj]
      have : ¬ ((j : Int) = (k : Int)) := by omega
      simp [er_sv, er_up, this]
  · rw [List.getElem?_eq_none (by rw [List.length_set, er_fsL]; omega), List.getElem?_eq_none (by rw [er_fsL]; omega)]
theorem er_RgM {T M : er_Me} {a i x : Int} (h : er_Rg T M) (hx : er_rg x) : er_Rg T (er_up M a i x) := by
  refine ⟨fun a' i' => ?_, h.2⟩
  unfold er_up
  split
  · exact hx
  · exact h.1 a' i'
theorem er_RgT {T M : er_Me} {a i y : Int} (h : er_Rg T M) (h0 : 0 < a) (hi : 0 ≤ i) : er_Rg (er_up T a i y) M := by
  have e1 : ∀ b : Int, er_up T a i y b (-2) = T b (-2) := fun b => if_neg (fun q => by omega)
  have e2 : ∀ b : Int, er_up T a i y b (-1) = T b (-1) := fun b => if_neg (fun q => by omega)
  have e3 : er_up T a i y 0 0 = T 0 0 := if_neg (fun q => by omega)
  refine ⟨h.1, fun b => ?_, fun b => ?_, ?_⟩
  · rw [e1, e3]; exact h.2.1 b
  · rw [e2]; exact h.2.2.1 b
  · rw [e3]; exact h.2.2.2
theorem er_nw0 (T : er_Me) (h : 0 ≤ T 0 0) (kd n : Int) : er_nw T kd n 0 0 = T 0 0 + 1 := by
  unfold er_nw
  rw [if_neg (by omega), if_pos ⟨rfl, rfl⟩]
theorem er_nwO (T : er_Me) (kd n : Int) {a : Int} (h : a ≠ T 0 0 + 1) (h0 : 0 < a) : er_nw T kd n a = T a := by
  funext i
  unfold er_nw
  rw [if_neg h, if_neg (by omega)]
theorem er_nwA (T : er_Me) (kd n i : Int) : er_nw T kd n (T 0 0 + 1) i = (if i = -1 then n else if i = -2 then kd else 0) := by
  unfold er_nw
  rw [if_pos rfl]
theorem er_RgN {T M : er_Me} {kd n : Int} (h : er_Rg T M) (hn : 0 ≤ n ∧ n < 2147483648) : er_Rg (er_nw T kd n) (er_mw M (T 0 0 + 1)) := by
  have hz := er_nw0 T h.2.2.2 kd n
  refine ⟨fun a i => ?_, fun a => ?_, fun a => ?_, ?_⟩
  · unfold er_mw
    split
    · exact er_rg0
    · exact h.1 a i
  · rw [hz]
    intro hk
    by_cases ha : a = T 0 0 + 1
    · have := h.2.2.2
      omega
    · have hk2 : T a (-2) ≠ 0 := by
        intro e
        apply hk
        unfold er_nw
        rw [if_neg ha, if_neg (by omega), e]
      have := h.2.1 a hk2
      omega
  · by_cases ha : a = T 0 0 + 1
    · subst ha
      rw [er_nwA, if_pos rfl]
      exact hn
    · have e : er_nw T kd n a (-1) = T a (-1) := by
        unfold er_nw
        rw [if_neg ha, if_neg (by omega)]
      rw [e]
      exact h.2.2.1 a
  · rw [hz]
    have := h.2.2.2
    omega
theorem er_cellN {X : er_X} {T M : er_Me} {kd n a : Int} (h : a ≠ T 0 0 + 1) (h0 : 0 < a) : er_cell X (er_nw T kd n) (er_mw M (T 0 0 + 1)) a = er_cell X T M a := by
  have e : er_mw M (T 0 0 + 1) a = M a := by funext i; unfold er_mw; rw [if_neg h]
  unfold er_cell er_fs er_sv
  rw [er_nwO T kd n h h0, e]
theorem er_wsN {X : er_X} {T M : er_Me} {kd n : Int} (h : er_Rg T M) : er_ws X (er_nw T kd n) (er_mw M (T 0 0 + 1)) = er_ws X T M ++ [(X.2.2.1 + 1 + (T 0 0).toNat, er_cell X (er_nw T kd n) (er_mw M (T 0 0 + 1)) (T 0 0 + 1))] := by
  have h4 := h.2.2.2
  apply List.ext_getElem?
  intro i
  by_cases hi : i < (T 0 0).toNat
  · rw [er_wsI (by rw [er_nw0 T h4]; omega), List.getElem?_append_left (by rw [er_len]; exact hi), er_wsI hi, er_cellN (by omega) (by omega)]
  · by_cases he : i = (T 0 0).toNat
    · rw [er_wsI (by rw [er_nw0 T h4]; omega), List.getElem?_append_right (by rw [er_len]; omega), er_len, show i - (T 0 0).toNat = 0 by omega]
      have e1 : ((i : Int) + 1) = T 0 0 + 1 := by omega
      have e2 : X.2.2.1 + (i + 1) = X.2.2.1 + 1 + (T 0 0).toNat := by omega
      rw [e1, e2]
      rfl
    · rw [List.getElem?_eq_none (by rw [er_len, er_nw0 T h4]; omega), List.getElem?_eq_none (by rw [List.length_append, er_len]; simp; omega)]
end
section
/-! the machine's context K (one tuple), the goal er_G over memory alone, contracts. er_T: the tables' words, er_Ns: the nest mates' words, er_AOs: component classes (part 08) -/
abbrev er_K : Type := Program × Launch × Env × Room × State × MethodId × Array Value × List Frame × Method × Code × (State → Prop) × Nat × er_X
def er_Z (X : er_X) (s : State) (nL : Nat) (T M : er_Me) (L : List (Nat × er_V)) (st : List er_V) (H : Heap) (locs : List Loc) (ls : Array Slot) : Prop :=
  er_Rg T M ∧ (∀ q ∈ L, er_ok q.2) ∧ (∀ v ∈ st, er_ok v) ∧ H.size = X.2.2.1 + 1 + (T 0 0).toNat ∧ va_P X.1 classes (er_ws X T M) H ∧ va_S (er_A X) s.heap H locs ∧ lv_has ls nL (er_lv X L)
def er_G (K : er_K) (cells slots : Nat) (T M : er_Me) (pc : Nat) (L : List (Nat × er_V)) (st : List er_V) : Prop := match K with
  | (p, l, e, R, s, m, args, below, meth, c, Q, nL, X) => ∀ (H : Heap) (locs : List Loc) (ls : Array Slot), er_Z X s nL T M L st H locs ls → W p l e R s m args below meth c H locs cells slots Q (F0 m pc ls (er_st X st))
def er_KK (X : er_X) (U : State) : Prop := va_K X.1 classes (er_tys X) U ∧ (∀ w ∈ er_Ns, va_Nw w U) ∧ (∀ C ∈ er_AOs, va_AO C U)
def er_XX (X : er_X) (U : State) : Prop := va_X X.2.2.2.1 X.2.2.2.2.1 X.2.2.2.2.2 U U.heap ∧ X.2.2.2.1 ≤ X.2.2.1 ∧ X.2.2.2.2.1 < 2147483648
def er_Cx (K : er_K) (l : Launch) (X : er_X) (cc : ByteArray) (own : String) (nL : Nat) (R : Room) : Prop :=
  ∃ (p : Program) (e : Env) (s : State) (m : MethodId) (args : Array Value) (below : List Frame) (meth : Method) (c : Code) (Q : State → Prop), K = (p, l, e, R, s, m, args, below, meth, c, Q, nL, X) ∧ p.tables.exec = Jvm.exec ∧ c.code = cc ∧ c.maxLocals = nL ∧ s.vm.findClass own = some m.cls ∧ (∀ w ∈ er_T, w.before args s = true) ∧ er_KK X s ∧ er_XX X s ∧ X.2.2.1 < s.heap.size
def er_In (K : er_K) : Prop := K.2.2.2.2.2.2.2.2.1.name = "<init>"
def er_Qc (X : er_X) (r : Option er_V) (T M : er_Me) : Array Value → State → Outcome → State → Prop := fun _ st oc t =>
  (oc = .returned (r.map (er_cv X)) ∧ (∀ v, r = some v → er_ok v) ∧ er_Rg T M ∧ t.heap.size = X.2.2.1 + 1 + (T 0 0).toNat ∧ va_P X.1 classes (er_ws X T M) t.heap) ∧ va_F (er_A X) st t
def er_Pw (X : er_X) (T M : er_Me) (U : State) : Prop := er_Rg T M ∧ U.heap.size = X.2.2.1 + 1 + (T 0 0).toNat ∧ va_P X.1 classes (er_ws X T M) U.heap ∧ er_KK X U ∧ er_XX X U
def er_Ct (l : Launch) (X : er_X) (y : MethodName) (cc : ByteArray) (maxL : Nat) (ret : Option FieldType) (rm : Room) (av : List er_V) (T M : er_Me) (r : Option er_V) (T' M' : er_Me) : Prop :=
  Met l y (.code y cc maxL ret :: er_T) rm (va_Pc (er_st X av) (er_Pw X T M)) (er_Qc X r T' M') rm.cells rm.slots (er_A X)
def er_Rt (K : er_K) (X : er_X) (cc : ByteArray) (ret : Option FieldType) (mc ms : Nat) (r : Option er_V) (T M : er_Me) : Prop :=
  ∃ (p : Program) (l : Launch) (e : Env) (R : Room) (s : State) (m : MethodId) (args : Array Value) (below : List Frame) (meth : Method) (c : Code) (nL : Nat), K = (p, l, e, R, s, m, args, below, meth, c, MQ below (er_Qc X r T M) args s mc ms (er_A X), nL, X) ∧ p.tables.exec = Jvm.exec ∧ c.code = cc ∧ meth.sig.returnType = ret ∧ meth.locks = false
def er_args : Nat → List er_V → List (Nat × er_V)
  | _, [] => []
  | i, v :: vs => (i, v) :: er_args (i + 1) vs
theorem er_argsI (X : er_X) : ∀ (vs : List er_V) (i : Nat), lv_args i (er_st X vs) = er_lv X (er_args i vs)
  | [], _ => rfl
  | v :: vs, i => by
    show (i, er_cv X v) :: lv_args (if (er_cv X v).category = 2 then i + 2 else i + 1) (er_st X vs) = (i, er_cv X v) :: er_lv X (er_args (i + 1) vs)
    rw [er_cat, if_neg (by decide), er_argsI X vs (i + 1)]
theorem er_argsO : ∀ (vs : List er_V) (i : Nat), (∀ v ∈ vs, er_ok v) → ∀ q ∈ er_args i vs, er_ok q.2
  | [], _, _, q, hq => by cases hq
  | v :: vs, i, h, q, hq => by
    rcases List.mem_cons.mp hq with e | e
    · rw [e]; exact h v List.mem_cons_self
    · exact er_argsO vs (i + 1) (fun w hw => h w (List.mem_cons_of_mem _ hw)) q e
theorem er_slI (X : er_X) : ∀ vs : List er_V, (lg_sl (er_st X vs)).length = vs.length
  | [] => rfl
  | v :: vs => by
    have h := er_slI X vs
    show ((if (er_cv X v).category = 2 then [Slot.val (er_cv X v), Slot.second] else [Slot.val (er_cv X v)]) ++ lg_sl (er_st X vs)).length = vs.length + 1
    rw [er_cat, if_neg (by decide), List.length_append, h]
    simp
    omega
theorem er_KK.warm {X : er_X} {s U : State} (hW : s.WarmedH U.vm) (h : er_KK X s) : er_KK X U := by
  refine ⟨va_K.moved hW.alike h.1, fun w hw => ?_, fun C hC => va_AO.moved hW.alike (h.2.2 C hC)⟩
  have h1 := h.2.1 w hw
  have h2 := List.all_eq_true.mp er_NsN w hw
  cases w <;> first | exact va_Nw.warmF hW h1 | exact va_Nw.warmM hW h1 | (exfalso; revert h2; simp [er_isN])
theorem er_KK.same {X : er_X} {s U : State} (hv : s.vm = U.vm) (h : er_KK X s) : er_KK X U := by
  refine ⟨va_K.moved (hv ▸ Vm.Alike.refl s.vm) h.1, fun w hw => ?_, fun C hC => va_AO.moved (hv ▸ Vm.Alike.refl s.vm) (h.2.2 C hC)⟩
  have h1 := h.2.1 w hw
  have h2 := List.all_eq_true.mp er_NsN w hw
  cases w <;> first | exact va_Nw.same rfl hv h1 | (exfalso; revert h2; simp [er_isN])
theorem er_XX.kept {X : er_X} {s U : State} {H : Heap} {locs : List Loc} (h : er_XX X s) (hlt : X.2.2.1 < s.heap.size) (hS : va_S (er_A X) s.heap H locs) (hU : U.heap = H) (hvm : s.vm.Alike U.vm) : er_XX X U := by
  refine ⟨?_, h.2⟩
  rw [hU]
  exact (h.1.kept (hS.2.1 _ (Nat.lt_of_le_of_lt h.2.1 hlt) (by show ¬ X.2.2.1 < _; have := h.2.1; omega))).moved hvm
theorem er_blind (X : er_X) (T M : er_Me) (av : List Value) : FrameBlind (va_Pc av (er_Pw X T M)) := by
  intro a U g mk q
  obtain ⟨q0, q1, q2, q3, q4, q5⟩ := q
  exact ⟨q0, q1, q2, q3, er_KK.same (s := U) (U := U.calling g mk a) rfl q4, va_X.moved (Vm.Alike.refl _) q5.1, q5.2⟩
set_option maxHeartbeats 1000000 in
/-- a contract out of a walk -/
theorem er_ct {l : Launch} {X : er_X} {y : MethodName} {cc : ByteArray} {maxL : Nat} {ret : Option FieldType} {rm : Room} {av : List er_V} {T M : er_Me} {r : Option er_V} {T' M' : er_Me} {own : String} (hy : plainName y.cls = true) (how : y.cls = own) (hav : av.length ≤ maxL) (hok : ∀ v ∈ av, er_ok v)
    (h : ∀ K : er_K, er_Cx K l X cc own maxL rm → er_Rt K X cc ret rm.cells rm.slots r T' M' → (y.name = "<init>" → er_In K) → er_G K 0 0 T M 0 (er_args 0 av) []) : er_Ct l X y cc maxL ret rm av T M r T' M' := by
  refine Met.ofW (cc := cc) (maxL := maxL) (ret := ret) hy rfl ?_
  intro p e s m args below meth c s₁ B hml hv
  obtain ⟨rfl, hg, hz, hP, hK, hX⟩ := hv
  subst how
  have hts := atoms_spec (ws := .code y cc maxL ret :: er_T) B.pre
  have hown : s.vm.findClass y.cls = some m.cls := findClass_of_methodNamed B.named
  rw [lg_entry_eq]
  refine h (p, l, e, rm, s, m, (er_st X av).toArray, below, meth, c, MQ below (er_Qc X r T' M') (er_st X av).toArray s rm.cells rm.slots (er_A X), maxL, X)
    ⟨p, e, s, m, _, below, meth, c, _, rfl, B.exec, B.bytes, hml, hown, fun w hw => hts w (List.mem_cons_of_mem _ hw), hK, hX, by omega⟩
    ⟨p, l, e, rm, s, m, _, below, meth, c, maxL, rfl, B.exec, B.bytes, B.returns, B.notSynchronized⟩ (fun hn => ((name_of_methodNamed B.named B.method).1).trans hn) s.heap [] _ ⟨hg, er_argsO av 0 hok, fun v hv => (by cases hv), hz, hP, va_S.rf, ?_⟩
  rw [← er_argsI]
  exact lv_entry (er_st X av) (by rw [er_slI]; exact hav)
theorem er_Z.st {X : er_X} {s : State} {nL : Nat} {T M : er_Me} {L : List (Nat × er_V)} {st st' : List er_V} {H : Heap} {locs : List Loc} {ls : Array Slot} (z : er_Z X s nL T M L st H locs ls) (h : ∀ v ∈ st', er_ok v) : er_Z X s nL T M L st' H locs ls := ⟨z.1, z.2.1, h, z.2.2.2⟩
theorem er_Z.a1 {X : er_X} {s : State} {nL : Nat} {T M : er_Me} {L : List (Nat × er_V)} {v : er_V} {st : List er_V} {H : Heap} {locs : List Loc} {ls : Array Slot} (z : er_Z X s nL T M L (v :: st) H locs ls) : er_ok v := z.2.2.1 v List.mem_cons_self
theorem er_Z.a2 {X : er_X} {s : State} {nL : Nat} {T M : er_Me} {L : List (Nat × er_V)} {v w : er_V} {st : List er_V} {H : Heap} {locs : List Loc} {ls : Array Slot} (z : er_Z X s nL T M L (v :: w :: st) H locs ls) : er_ok w := z.2.2.1 w (List.mem_cons_of_mem _ List.mem_cons_self)
theorem er_Z.p1 {X : er_X} {s : State} {nL : Nat} {T M : er_Me} {L : List (Nat × er_V)} {v : er_V} {st : List er_V} {H : Heap} {locs : List Loc} {ls : Array Slot} (z : er_Z X s nL T M L (v :: st) H locs ls) : er_Z X s nL T M L st H locs ls := z.st fun w hw => z.2.2.1 w (List.mem_cons_of_mem _ hw)
theorem er_Z.pu {X : er_X} {s : State} {nL : Nat} {T M : er_Me} {L : List (Nat × er_V)} {st : List er_V} {H : Heap} {locs : List Loc} {ls : Array Slot} (z : er_Z X s nL T M L st H locs ls) {v : er_V} (hv : er_ok v) : er_Z X s nL T M L (v :: st) H locs ls := z.st fun w hw => by
  rcases List.mem_cons.mp hw with e | e
  · rw [e]; exact hv
  · exact z.2.2.1 w e
theorem er_Z.lo {X : er_X} {s : State} {nL : Nat} {T M : er_Me} {L : List (Nat × er_V)} {st : List er_V} {H : Heap} {locs : List Loc} {ls : Array Slot} (z : er_Z X s nL T M L st H locs ls) {L' : List (Nat × er_V)} {ls' : Array Slot} (h : ∀ q ∈ L', er_ok q.2) (hl : lv_has ls' nL (er_lv X L')) : er_Z X s nL T M L' st H locs ls' := ⟨z.1, h, z.2.2.1, z.2.2.2.1, z.2.2.2.2.1, z.2.2.2.2.2.1, hl⟩
theorem er_lvA {X : er_X} {L : List (Nat × er_V)} {j k : Nat} {v : er_V} (h : L[j]? = some (k, v)) : (er_lv X L)[j]? = some (k, er_cv X v) := by
  rw [er_lv, List.getElem?_map, h]
  rfl
theorem er_lvF (X : er_X) (L : List (Nat × er_V)) (i : Nat) : (er_lv X L).filter (fun q => !(q.1 == i) && !(q.1 + 1 == i && q.2.category == 2)) = er_lv X (L.filter fun q => !(q.1 == i)) := by
  induction L with
  | nil => rfl
  | cons q L ih =>
    have e : ((q.1 == i) : Bool) = true ∨ (q.1 == i) = false := by cases (q.1 == i) <;> simp
    unfold er_lv at ih ⊢
    rw [List.map_cons, List.filter_cons, List.filter_cons, ih]
    simp only [er_cat]
    rcases e with e | e <;> simp [e]
theorem er_okS {L : List (Nat × er_V)} {i : Nat} {v : er_V} (h : ∀ q ∈ L, er_ok q.2) (hv : er_ok v) : ∀ q ∈ (i, v) :: L.filter (fun q => !(q.1 == i)), er_ok q.2 := by
  intro q hq
  rcases List.mem_cons.mp hq with e | e
  · rw [e]; exact hv
  · exact h q (List.mem_filter.mp e).1
theorem er_sum (X : er_X) : ∀ st : List er_V, ((er_st X st).map fun v => v.category).sum = st.length
  | [] => rfl
  | v :: st => by
    have h := er_sum X st
    show (er_cv X v).category + ((er_st X st).map fun v => v.category).sum = st.length + 1
    rw [h, er_cat]
    omega
end
section
section ERO
variable {K : er_K} {l : Launch} {X : er_X} {cc : ByteArray} {own : String} {nL : Nat} {R : Room} {cells slots pc : Nat} {T M : er_Me} {L : List (Nat × er_V)} {st : List er_V}
theorem er_iconst (cx : er_Cx K l X cc own nL R) {n v : Int} (hd : decode cc pc = .ok (.iconst n, 1)) (hv : Int32.ofInt n = Int32.ofInt v) (hr : er_rg v) (kk : er_G K cells slots T M (pc + 1) L (.inl v :: st)) : er_G K cells slots T M pc L st := by
  obtain ⟨p, e, s, m, args, below, meth, c, Q, rfl, hx, hb, hml, hown, hts, hKK, hXX, hbs⟩ := cx
  intro H locs ls z
  exact lv_iconst hx hb hd hv (kk H locs ls (z.pu hr))
theorem er_bipush (cx : er_Cx K l X cc own nL R) {n v : Int} (hd : decode cc pc = .ok (.bipush n, 2)) (hv : (Int8.ofInt n).toInt32 = Int32.ofInt v) (hr : er_rg v) (kk : er_G K cells slots T M (pc + 2) L (.inl v :: st)) : er_G K cells slots T M pc L st := by
  obtain ⟨p, e, s, m, args, below, meth, c, Q, rfl, hx, hb, hml, hown, hts, hKK, hXX, hbs⟩ := cx
  intro H locs ls z
  exact lv_bipush hx hb hd hv (kk H locs ls (z.pu hr))
theorem er_sipush (cx : er_Cx K l X cc own nL R) {n v : Int} (hd : decode cc pc = .ok (.sipush n, 3)) (hv : (Int16.ofInt n).toInt32 = Int32.ofInt v) (hr : er_rg v) (kk : er_G K cells slots T M (pc + 3) L (.inl v :: st)) : er_G K cells slots T M pc L st := by
  obtain ⟨p, e, s, m, args, below, meth, c, Q, rfl, hx, hb, hml, hown, hts, hKK, hXX, hbs⟩ := cx
  intro H locs ls z
  exact lv_sipush hx hb hd hv (kk H locs ls (z.pu hr))
theorem er_iload_n (cx : er_Cx K l X cc own nL R) {k : Fin 4} {x : Int} (hd : decode cc pc = .ok (.iload_n k, 1)) (j : Nat) (hj : L[j]? = some ((k : Nat), .inl x)) (kk : er_G K cells slots T M (pc + 1) L (.inl x :: st)) : er_G K cells slots T M pc L st := by
  obtain ⟨p, e, s, m, args, below, meth, c, Q, rfl, hx, hb, hml, hown, hts, hKK, hXX, hbs⟩ := cx
  intro H locs ls z
  exact lv_iload_n hx hb hd rfl (lv_at z.2.2.2.2.2.2 j (er_lvA hj)) (kk H locs ls (z.pu (z.2.1 _ (List.mem_of_getElem? hj))))
theorem er_iload (cx : er_Cx K l X cc own nL R) {i : Nat} {x : Int} (hd : decode cc pc = .ok (.iload i, 2)) (j : Nat) (hj : L[j]? = some (i, .inl x)) (kk : er_G K cells slots T M (pc + 2) L (.inl x :: st)) : er_G K cells slots T M pc L st := by
  obtain ⟨p, e, s, m, args, below, meth, c, Q, rfl, hx, hb, hml, hown, hts, hKK, hXX, hbs⟩ := cx
  intro H locs ls z
  exact lv_iload hx hb hd (lv_at z.2.2.2.2.2.2 j (er_lvA hj)) (kk H locs ls (z.pu (z.2.1 _ (List.mem_of_getElem? hj))))
theorem er_aload_n (cx : er_Cx K l X cc own nL R) {k : Fin 4} {x : Int} (hd : decode cc pc = .ok (.aload_n k, 1)) (j : Nat) (hj : L[j]? = some ((k : Nat), .inr x)) (kk : er_G K cells slots T M (pc + 1) L (.inr x :: st)) : er_G K cells slots T M pc L st := by
  obtain ⟨p, e, s, m, args, below, meth, c, Q, rfl, hx, hb, hml, hown, hts, hKK, hXX, hbs⟩ := cx
  intro H locs ls z
  exact lv_aload_n hx hb hd rfl (lv_at z.2.2.2.2.2.2 j (er_lvA hj)) (kk H locs ls (z.pu (z.2.1 _ (List.mem_of_getElem? hj))))
theorem er_aload (cx : er_Cx K l X cc own nL R) {i : Nat} {x : Int} (hd : decode cc pc = .ok (.aload i, 2)) (j : Nat) (hj : L[j]? = some (i, .inr x)) (kk : er_G K cells slots T M (pc + 2) L (.inr x :: st)) : er_G K cells slots T M pc L st := by
  obtain ⟨p, e, s, m, args, below, meth, c, Q, rfl, hx, hb, hml, hown, hts, hKK, hXX, hbs⟩ := cx
  intro H locs ls z
  exact lv_aload hx hb hd (lv_at z.2.2.2.2.2.2 j (er_lvA hj)) (kk H locs ls (z.pu (z.2.1 _ (List.mem_of_getElem? hj))))
theorem er_istore_n (cx : er_Cx K l X cc own nL R) {k : Fin 4} {i : Nat} {x : Int} {L' : List (Nat × er_V)} (hd : decode cc pc = .ok (.istore_n k, 1)) (hi : (k : Nat) = i) (hn : i < nL) (hL : ((i, Sum.inl x) :: L.filter fun q => !(q.1 == i)) = L') (kk : er_G K cells slots T M (pc + 1) L' st) : er_G K cells slots T M pc L (.inl x :: st) := by
  obtain ⟨p, e, s, m, args, below, meth, c, Q, rfl, hx, hb, hml, hown, hts, hKK, hXX, hbs⟩ := cx
  intro H locs ls z
  subst hL
  refine lv_istore_n hx hb hd hi z.2.2.2.2.2.2 hn rfl (fun ls' h' => kk H locs ls' (z.p1.lo (er_okS z.2.1 z.a1) ?_))
  rw [er_lvF] at h'
  exact h'
theorem er_istore (cx : er_Cx K l X cc own nL R) {i : Nat} {x : Int} {L' : List (Nat × er_V)} (hd : decode cc pc = .ok (.istore i, 2)) (hn : i < nL) (hL : ((i, Sum.inl x) :: L.filter fun q => !(q.1 == i)) = L') (kk : er_G K cells slots T M (pc + 2) L' st) : er_G K cells slots T M pc L (.inl x :: st) := by
  obtain ⟨p, e, s, m, args, below, meth, c, Q, rfl, hx, hb, hml, hown, hts, hKK, hXX, hbs⟩ := cx
  intro H locs ls z
  subst hL
  refine lv_istore hx hb hd z.2.2.2.2.2.2 hn rfl (fun ls' h' => kk H locs ls' (z.p1.lo (er_okS z.2.1 z.a1) ?_))
  rw [er_lvF] at h'
  exact h'
theorem er_astore_n (cx : er_Cx K l X cc own nL R) {k : Fin 4} {i : Nat} {x : Int} {L' : List (Nat × er_V)} (hd : decode cc pc = .ok (.astore_n k, 1)) (hi : (k : Nat) = i) (hn : i < nL) (hL : ((i, Sum.inr x) :: L.filter fun q => !(q.1 == i)) = L') (kk : er_G K cells slots T M (pc + 1) L' st) : er_G K cells slots T M pc L (.inr x :: st) := by
  obtain ⟨p, e, s, m, args, below, meth, c, Q, rfl, hx, hb, hml, hown, hts, hKK, hXX, hbs⟩ := cx
  intro H locs ls z
  subst hL
  refine lv_astore_n hx hb hd hi z.2.2.2.2.2.2 hn rfl (fun ls' h' => kk H locs ls' (z.p1.lo (er_okS z.2.1 z.a1) ?_))
  rw [er_lvF] at h'
  exact h'
theorem er_astore (cx : er_Cx K l X cc own nL R) {i : Nat} {x : Int} {L' : List (Nat × er_V)} (hd : decode cc pc = .ok (.astore i, 2)) (hn : i < nL) (hL : ((i, Sum.inr x) :: L.filter fun q => !(q.1 == i)) = L') (kk : er_G K cells slots T M (pc + 2) L' st) : er_G K cells slots T M pc L (.inr x :: st) := by
  obtain ⟨p, e, s, m, args, below, meth, c, Q, rfl, hx, hb, hml, hown, hts, hKK, hXX, hbs⟩ := cx
  intro H locs ls z
  subst hL
  refine lv_astore hx hb hd z.2.2.2.2.2.2 hn rfl (fun ls' h' => kk H locs ls' (z.p1.lo (er_okS z.2.1 z.a1) ?_))
  rw [er_lvF] at h'
  exact h'
theorem er_iinc (cx : er_Cx K l X cc own nL R) {i k : Nat} {n x x1 : Int} {L' : List (Nat × er_V)} (hd : decode cc pc = .ok (.iinc i n, 3)) (hk : L[k]? = some (i, .inl x)) (hn : i < nL) (hx1 : er_add x n = x1) (hL : ((i, Sum.inl x1) :: L.filter fun q => !(q.1 == i)) = L') (kk : er_G K cells slots T M (pc + 3) L' st) : er_G K cells slots T M pc L st := by
  obtain ⟨p, e, s, m, args, below, meth, c, Q, rfl, hx, hb, hml, hown, hts, hKK, hXX, hbs⟩ := cx
  intro H locs ls z
  subst hx1
  subst hL
  refine lv_iinc (k := k) (v := Int32.ofInt x + Int32.ofInt n) hx hb hd z.2.2.2.2.2.2 (er_lvA hk) rfl hn rfl (fun ls' h' => kk H locs ls' (z.lo (er_okS z.2.1 (er_rgI _)) ?_))
  rw [er_lvF, ← er_cvI (X := X)] at h'
  exact h'
theorem er_iadd (cx : er_Cx K l X cc own nL R) {x y : Int} (hd : decode cc pc = .ok (.iadd, 1)) (kk : er_G K cells slots T M (pc + 1) L (.inl (er_add x y) :: st)) : er_G K cells slots T M pc L (.inl y :: .inl x :: st) := by
  obtain ⟨p, e, s, m, args, below, meth, c, Q, rfl, hx, hb, hml, hown, hts, hKK, hXX, hbs⟩ := cx
  intro H locs ls z
  have k := kk H locs ls (z.p1.p1.pu (er_rgI _))
  have ev : er_st X (.inl (er_add x y) :: st) = .int (Int32.ofInt x + Int32.ofInt y) :: er_st X st := congrArg (· :: er_st X st) (er_cvI _)
  rw [ev] at k
  exact lv_iadd hx hb hd k
theorem er_isub (cx : er_Cx K l X cc own nL R) {x y : Int} (hd : decode cc pc = .ok (.isub, 1)) (kk : er_G K cells slots T M (pc + 1) L (.inl (er_sub x y) :: st)) : er_G K cells slots T M pc L (.inl y :: .inl x :: st) := by
  obtain ⟨p, e, s, m, args, below, meth, c, Q, rfl, hx, hb, hml, hown, hts, hKK, hXX, hbs⟩ := cx
  intro H locs ls z
  have k := kk H locs ls (z.p1.p1.pu (er_rgI _))
  have ev : er_st X (.inl (er_sub x y) :: st) = .int (Int32.ofInt x - Int32.ofInt y) :: er_st X st := congrArg (· :: er_st X st) (er_cvI _)
  rw [ev] at k
  exact lv_isub hx hb hd k
theorem er_imul (cx : er_Cx K l X cc own nL R) {x y : Int} (hd : decode cc pc = .ok (.imul, 1)) (kk : er_G K cells slots T M (pc + 1) L (.inl (er_mul x y) :: st)) : er_G K cells slots T M pc L (.inl y :: .inl x :: st) := by
  obtain ⟨p, e, s, m, args, below, meth, c, Q, rfl, hx, hb, hml, hown, hts, hKK, hXX, hbs⟩ := cx
  intro H locs ls z
  have k := kk H locs ls (z.p1.p1.pu (er_rgI _))
  have ev : er_st X (.inl (er_mul x y) :: st) = .int (Int32.ofInt x * Int32.ofInt y) :: er_st X st := congrArg (· :: er_st X st) (er_cvI _)
  rw [ev] at k
  exact lv_imul hx hb hd k
theorem er_iand (cx : er_Cx K l X cc own nL R) {x y : Int} (hd : decode cc pc = .ok (.iand, 1)) (kk : er_G K cells slots T M (pc + 1) L (.inl (er_and x y) :: st)) : er_G K cells slots T M pc L (.inl y :: .inl x :: st) := by
  obtain ⟨p, e, s, m, args, below, meth, c, Q, rfl, hx, hb, hml, hown, hts, hKK, hXX, hbs⟩ := cx
  intro H locs ls z
  have k := kk H locs ls (z.p1.p1.pu (er_rgI _))
  have ev : er_st X (.inl (er_and x y) :: st) = .int (Int32.ofInt x &&& Int32.ofInt y) :: er_st X st := congrArg (· :: er_st X st) (er_cvI _)
  rw [ev] at k
  exact lv_iand hx hb hd k
theorem er_ior (cx : er_Cx K l X cc own nL R) {x y : Int} (hd : decode cc pc = .ok (.ior, 1)) (kk : er_G K cells slots T M (pc + 1) L (.inl (er_or x y) :: st)) : er_G K cells slots T M pc L (.inl y :: .inl x :: st) := by
  obtain ⟨p, e, s, m, args, below, meth, c, Q, rfl, hx, hb, hml, hown, hts, hKK, hXX, hbs⟩ := cx
  intro H locs ls z
  have k := kk H locs ls (z.p1.p1.pu (er_rgI _))
  have ev : er_st X (.inl (er_or x y) :: st) = .int (Int32.ofInt x ||| Int32.ofInt y) :: er_st X st := congrArg (· :: er_st X st) (er_cvI _)
  rw [ev] at k
  exact lv_ior hx hb hd k
theorem er_ishl (cx : er_Cx K l X cc own nL R) {x y : Int} (hd : decode cc pc = .ok (.ishl, 1)) (kk : er_G K cells slots T M (pc + 1) L (.inl (er_shl x y) :: st)) : er_G K cells slots T M pc L (.inl y :: .inl x :: st) := by
  obtain ⟨p, e, s, m, args, below, meth, c, Q, rfl, hx, hb, hml, hown, hts, hKK, hXX, hbs⟩ := cx
  intro H locs ls z
  have k := kk H locs ls (z.p1.p1.pu (er_rgI _))
  have ev : er_st X (.inl (er_shl x y) :: st) = .int (Int32.ofInt x <<< (Int32.ofInt y &&& 31)) :: er_st X st := congrArg (· :: er_st X st) (er_cvI _)
  rw [ev] at k
  exact lv_ishl hx hb hd k
theorem er_ishr (cx : er_Cx K l X cc own nL R) {x y : Int} (hd : decode cc pc = .ok (.ishr, 1)) (kk : er_G K cells slots T M (pc + 1) L (.inl (er_shr x y) :: st)) : er_G K cells slots T M pc L (.inl y :: .inl x :: st) := by
  obtain ⟨p, e, s, m, args, below, meth, c, Q, rfl, hx, hb, hml, hown, hts, hKK, hXX, hbs⟩ := cx
  intro H locs ls z
  have k := kk H locs ls (z.p1.p1.pu (er_rgI _))
  have ev : er_st X (.inl (er_shr x y) :: st) = .int (Int32.ofInt x >>> (Int32.ofInt y &&& 31)) :: er_st X st := congrArg (· :: er_st X st) (er_cvI _)
  rw [ev] at k
  exact lv_ishr hx hb hd k
theorem er_idiv (cx : er_Cx K l X cc own nL R) {x y : Int} (hd : decode cc pc = .ok (.idiv, 1)) (hne : y ≠ 0) (kk : er_G K cells slots T M (pc + 1) L (.inl (er_div x y) :: st)) : er_G K cells slots T M pc L (.inl y :: .inl x :: st) := by
  obtain ⟨p, e, s, m, args, below, meth, c, Q, rfl, hx, hb, hml, hown, hts, hKK, hXX, hbs⟩ := cx
  intro H locs ls z
  have k := kk H locs ls (z.p1.p1.pu (er_rgI _))
  have ev : er_st X (.inl (er_div x y) :: st) = .int (Int32.ofInt x / Int32.ofInt y) :: er_st X st := congrArg (· :: er_st X st) (er_cvI _)
  rw [ev] at k
  exact lv_idiv hx hb hd (fun q => hne ((er_eqI z.a1 er_rg0).mp (q.trans er_i0.symm))) k
theorem er_irem (cx : er_Cx K l X cc own nL R) {x y : Int} (hd : decode cc pc = .ok (.irem, 1)) (hne : y ≠ 0) (kk : er_G K cells slots T M (pc + 1) L (.inl (er_rem x y) :: st)) : er_G K cells slots T M pc L (.inl y :: .inl x :: st) := by
  obtain ⟨p, e, s, m, args, below, meth, c, Q, rfl, hx, hb, hml, hown, hts, hKK, hXX, hbs⟩ := cx
  intro H locs ls z
  have k := kk H locs ls (z.p1.p1.pu (er_rgI _))
  have ev : er_st X (.inl (er_rem x y) :: st) = .int (Int32.ofInt x - Int32.ofInt x / Int32.ofInt y * Int32.ofInt y) :: er_st X st := congrArg (· :: er_st X st) (er_cvI _)
  rw [ev] at k
  exact lv_irem hx hb hd (fun q => hne ((er_eqI z.a1 er_rg0).mp (q.trans er_i0.symm))) k
theorem er_dup (cx : er_Cx K l X cc own nL R) {v : er_V} (hd : decode cc pc = .ok (.dup, 1)) (kk : er_G K cells slots T M (pc + 1) L (v :: v :: st)) : er_G K cells slots T M pc L (v :: st) := by
  obtain ⟨p, e, s, m, args, below, meth, c, Q, rfl, hx, hb, hml, hown, hts, hKK, hXX, hbs⟩ := cx
  intro H locs ls z
  exact lv_dup hx hb hd (er_cat X v) (kk H locs ls (z.pu z.a1))
theorem er_pop (cx : er_Cx K l X cc own nL R) {v : er_V} (hd : decode cc pc = .ok (.pop, 1)) (kk : er_G K cells slots T M (pc + 1) L st) : er_G K cells slots T M pc L (v :: st) := by
  obtain ⟨p, e, s, m, args, below, meth, c, Q, rfl, hx, hb, hml, hown, hts, hKK, hXX, hbs⟩ := cx
  intro H locs ls z
  exact lv_pop hx hb hd (er_cat X v) (kk H locs ls z.p1)
theorem er_dup2 (cx : er_Cx K l X cc own nL R) {v w : er_V} (hd : decode cc pc = .ok (.dup2, 1)) (kk : er_G K cells slots T M (pc + 1) L (v :: w :: v :: w :: st)) : er_G K cells slots T M pc L (v :: w :: st) := by
  obtain ⟨p, e, s, m, args, below, meth, c, Q, rfl, hx, hb, hml, hown, hts, hKK, hXX, hbs⟩ := cx
  intro H locs ls z
  exact lv_dup2_11 hx hb hd (er_cat X v) (er_cat X w) (kk H locs ls ((z.pu z.a2).pu z.a1))
theorem er_dup_x1 (cx : er_Cx K l X cc own nL R) {v w : er_V} (hd : decode cc pc = .ok (.dup_x1, 1)) (kk : er_G K cells slots T M (pc + 1) L (v :: w :: v :: st)) : er_G K cells slots T M pc L (v :: w :: st) := by
  obtain ⟨p, e, s, m, args, below, meth, c, Q, rfl, hx, hb, hml, hown, hts, hKK, hXX, hbs⟩ := cx
  intro H locs ls z
  exact lv_dup_x1 hx hb hd (er_cat X v) (er_cat X w) (kk H locs ls (((z.p1.p1.pu z.a1).pu z.a2).pu z.a1))
theorem er_if_eq (cx : er_Cx K l X cc own nL R) {x : Int} {off : Int} {tgt : Nat} (hd : decode cc pc = .ok (.ifCond .eq off, 3)) (ht : (pc : Int) + off = (tgt : Int)) (kt : x = 0 → er_G K cells slots T M tgt L st) (kf : ¬ x = 0 → er_G K cells slots T M (pc + 3) L st) : er_G K cells slots T M pc L (.inl x :: st) := by
  obtain ⟨p, e, s, m, args, below, meth, c, Q, rfl, hx, hb, hml, hown, hts, hKK, hXX, hbs⟩ := cx
  intro H locs ls z
  have hi : Int32.ofInt x = Int32.ofInt 0 ↔ x = 0 := (er_eqI z.a1 er_rg0)
  rw [er_i0] at hi
  exact lv_if_eq hx hb hd ht (fun q => kt (hi.mp q) H locs ls z.p1) (fun q => kf (fun w => q (hi.mpr w)) H locs ls z.p1)
theorem er_if_ne (cx : er_Cx K l X cc own nL R) {x : Int} {off : Int} {tgt : Nat} (hd : decode cc pc = .ok (.ifCond .ne off, 3)) (ht : (pc : Int) + off = (tgt : Int)) (kt : ¬ x = 0 → er_G K cells slots T M tgt L st) (kf : x = 0 → er_G K cells slots T M (pc + 3) L st) : er_G K cells slots T M pc L (.inl x :: st) := by
  obtain ⟨p, e, s, m, args, below, meth, c, Q, rfl, hx, hb, hml, hown, hts, hKK, hXX, hbs⟩ := cx
  intro H locs ls z
  have hi : Int32.ofInt x = Int32.ofInt 0 ↔ x = 0 := (er_eqI z.a1 er_rg0)
  rw [er_i0] at hi
  exact lv_if_ne hx hb hd ht (fun q => kt (fun w => q (hi.mpr w)) H locs ls z.p1) (fun q => kf (hi.mp q) H locs ls z.p1)
theorem er_if_lt (cx : er_Cx K l X cc own nL R) {x : Int} {off : Int} {tgt : Nat} (hd : decode cc pc = .ok (.ifCond .lt off, 3)) (ht : (pc : Int) + off = (tgt : Int)) (kt : x < 0 → er_G K cells slots T M tgt L st) (kf : ¬ x < 0 → er_G K cells slots T M (pc + 3) L st) : er_G K cells slots T M pc L (.inl x :: st) := by
  obtain ⟨p, e, s, m, args, below, meth, c, Q, rfl, hx, hb, hml, hown, hts, hKK, hXX, hbs⟩ := cx
  intro H locs ls z
  have hi : Int32.ofInt x < Int32.ofInt 0 ↔ x < 0 := (er_ltI z.a1 er_rg0)
  rw [er_i0] at hi
  exact lv_if_lt hx hb hd ht (fun q => kt (hi.mp q) H locs ls z.p1) (fun q => kf (fun w => q (hi.mpr w)) H locs ls z.p1)
theorem er_if_ge (cx : er_Cx K l X cc own nL R) {x : Int} {off : Int} {tgt : Nat} (hd : decode cc pc = .ok (.ifCond .ge off, 3)) (ht : (pc : Int) + off = (tgt : Int)) (kt : 0 ≤ x → er_G K cells slots T M tgt L st) (kf : ¬ 0 ≤ x → er_G K cells slots T M (pc + 3) L st) : er_G K cells slots T M pc L (.inl x :: st) := by
  obtain ⟨p, e, s, m, args, below, meth, c, Q, rfl, hx, hb, hml, hown, hts, hKK, hXX, hbs⟩ := cx
  intro H locs ls z
  have hi : Int32.ofInt 0 ≤ Int32.ofInt x ↔ 0 ≤ x := (er_leI er_rg0 z.a1)
  rw [er_i0] at hi
  exact lv_if_ge hx hb hd ht (fun q => kt (hi.mp q) H locs ls z.p1) (fun q => kf (fun w => q (hi.mpr w)) H locs ls z.p1)
theorem er_if_gt (cx : er_Cx K l X cc own nL R) {x : Int} {off : Int} {tgt : Nat} (hd : decode cc pc = .ok (.ifCond .gt off, 3)) (ht : (pc : Int) + off = (tgt : Int)) (kt : 0 < x → er_G K cells slots T M tgt L st) (kf : ¬ 0 < x → er_G K cells slots T M (pc + 3) L st) : er_G K cells slots T M pc L (.inl x :: st) := by
  obtain ⟨p, e, s, m, args, below, meth, c, Q, rfl, hx, hb, hml, hown, hts, hKK, hXX, hbs⟩ := cx
  intro H locs ls z
  have hi : Int32.ofInt 0 < Int32.ofInt x ↔ 0 < x := (er_ltI er_rg0 z.a1)
  rw [er_i0] at hi
  exact lv_if_gt hx hb hd ht (fun q => kt (hi.mp q) H locs ls z.p1) (fun q => kf (fun w => q (hi.mpr w)) H locs ls z.p1)
theorem er_if_le (cx : er_Cx K l X cc own nL R) {x : Int} {off : Int} {tgt : Nat} (hd : decode cc pc = .ok (.ifCond .le off, 3)) (ht : (pc : Int) + off = (tgt : Int)) (kt : x ≤ 0 → er_G K cells slots T M tgt L st) (kf : ¬ x ≤ 0 → er_G K cells slots T M (pc + 3) L st) : er_G K cells slots T M pc L (.inl x :: st) := by
  obtain ⟨p, e, s, m, args, below, meth, c, Q, rfl, hx, hb, hml, hown, hts, hKK, hXX, hbs⟩ := cx
  intro H locs ls z
  have hi : Int32.ofInt x ≤ Int32.ofInt 0 ↔ x ≤ 0 := (er_leI z.a1 er_rg0)
  rw [er_i0] at hi
  exact lv_if_le hx hb hd ht (fun q => kt (hi.mp q) H locs ls z.p1) (fun q => kf (fun w => q (hi.mpr w)) H locs ls z.p1)
theorem er_ic_eq (cx : er_Cx K l X cc own nL R) {x y : Int} {off : Int} {tgt : Nat} (hd : decode cc pc = .ok (.if_icmp .eq off, 3)) (ht : (pc : Int) + off = (tgt : Int)) (kt : x = y → er_G K cells slots T M tgt L st) (kf : ¬ x = y → er_G K cells slots T M (pc + 3) L st) : er_G K cells slots T M pc L (.inl y :: .inl x :: st) := by
  obtain ⟨p, e, s, m, args, below, meth, c, Q, rfl, hx, hb, hml, hown, hts, hKK, hXX, hbs⟩ := cx
  intro H locs ls z
  exact lv_icmp_eq hx hb hd ht (fun q => kt ((er_eqI z.a2 z.a1).mp q) H locs ls z.p1.p1) (fun q => kf (fun w => q ((er_eqI z.a2 z.a1).mpr w)) H locs ls z.p1.p1)
theorem er_ic_ne (cx : er_Cx K l X cc own nL R) {x y : Int} {off : Int} {tgt : Nat} (hd : decode cc pc = .ok (.if_icmp .ne off, 3)) (ht : (pc : Int) + off = (tgt : Int)) (kt : ¬ x = y → er_G K cells slots T M tgt L st) (kf : x = y → er_G K cells slots T M (pc + 3) L st) : er_G K cells slots T M pc L (.inl y :: .inl x :: st) := by
  obtain ⟨p, e, s, m, args, below, meth, c, Q, rfl, hx, hb, hml, hown, hts, hKK, hXX, hbs⟩ := cx
  intro H locs ls z
  exact lv_icmp_ne hx hb hd ht (fun q => kt (fun w => q ((er_eqI z.a2 z.a1).mpr w)) H locs ls z.p1.p1) (fun q => kf ((er_eqI z.a2 z.a1).mp q) H locs ls z.p1.p1)
theorem er_ic_lt (cx : er_Cx K l X cc own nL R) {x y : Int} {off : Int} {tgt : Nat} (hd : decode cc pc = .ok (.if_icmp .lt off, 3)) (ht : (pc : Int) + off = (tgt : Int)) (kt : x < y → er_G K cells slots T M tgt L st) (kf : ¬ x < y → er_G K cells slots T M (pc + 3) L st) : er_G K cells slots T M pc L (.inl y :: .inl x :: st) := by
  obtain ⟨p, e, s, m, args, below, meth, c, Q, rfl, hx, hb, hml, hown, hts, hKK, hXX, hbs⟩ := cx
  intro H locs ls z
  exact lv_icmp_lt hx hb hd ht (fun q => kt ((er_ltI z.a2 z.a1).mp q) H locs ls z.p1.p1) (fun q => kf (fun w => q ((er_ltI z.a2 z.a1).mpr w)) H locs ls z.p1.p1)
theorem er_ic_ge (cx : er_Cx K l X cc own nL R) {x y : Int} {off : Int} {tgt : Nat} (hd : decode cc pc = .ok (.if_icmp .ge off, 3)) (ht : (pc : Int) + off = (tgt : Int)) (kt : y ≤ x → er_G K cells slots T M tgt L st) (kf : ¬ y ≤ x → er_G K cells slots T M (pc + 3) L st) : er_G K cells slots T M pc L (.inl y :: .inl x :: st) := by
  obtain ⟨p, e, s, m, args, below, meth, c, Q, rfl, hx, hb, hml, hown, hts, hKK, hXX, hbs⟩ := cx
  intro H locs ls z
  exact lv_icmp_ge hx hb hd ht (fun q => kt ((er_leI z.a1 z.a2).mp q) H locs ls z.p1.p1) (fun q => kf (fun w => q ((er_leI z.a1 z.a2).mpr w)) H locs ls z.p1.p1)
theorem er_ic_gt (cx : er_Cx K l X cc own nL R) {x y : Int} {off : Int} {tgt : Nat} (hd : decode cc pc = .ok (.if_icmp .gt off, 3)) (ht : (pc : Int) + off = (tgt : Int)) (kt : y < x → er_G K cells slots T M tgt L st) (kf : ¬ y < x → er_G K cells slots T M (pc + 3) L st) : er_G K cells slots T M pc L (.inl y :: .inl x :: st) := by
  obtain ⟨p, e, s, m, args, below, meth, c, Q, rfl, hx, hb, hml, hown, hts, hKK, hXX, hbs⟩ := cx
  intro H locs ls z
  exact lv_icmp_gt hx hb hd ht (fun q => kt ((er_ltI z.a1 z.a2).mp q) H locs ls z.p1.p1) (fun q => kf (fun w => q ((er_ltI z.a1 z.a2).mpr w)) H locs ls z.p1.p1)
theorem er_ic_le (cx : er_Cx K l X cc own nL R) {x y : Int} {off : Int} {tgt : Nat} (hd : decode cc pc = .ok (.if_icmp .le off, 3)) (ht : (pc : Int) + off = (tgt : Int)) (kt : x ≤ y → er_G K cells slots T M tgt L st) (kf : ¬ x ≤ y → er_G K cells slots T M (pc + 3) L st) : er_G K cells slots T M pc L (.inl y :: .inl x :: st) := by
  obtain ⟨p, e, s, m, args, below, meth, c, Q, rfl, hx, hb, hml, hown, hts, hKK, hXX, hbs⟩ := cx
  intro H locs ls z
  exact lv_icmp_le hx hb hd ht (fun q => kt ((er_leI z.a2 z.a1).mp q) H locs ls z.p1.p1) (fun q => kf (fun w => q ((er_leI z.a2 z.a1).mpr w)) H locs ls z.p1.p1)
theorem er_goto (cx : er_Cx K l X cc own nL R) {off : Int} {tgt : Nat} (hd : decode cc pc = .ok (.goto off, 3)) (ht : (pc : Int) + off = (tgt : Int)) (kk : er_G K cells slots T M tgt L st) : er_G K cells slots T M pc L st := by
  obtain ⟨p, e, s, m, args, below, meth, c, Q, rfl, hx, hb, hml, hown, hts, hKK, hXX, hbs⟩ := cx
  intro H locs ls z
  exact lv_goto hx hb hd ht (kk H locs ls z)
end ERO
end
section
/-! rows that read and write the memory -/
def er_Lk (own : String) (index : Nat) (nest : Bool) (q : String × String × String × Bool) : Prop := (nest = false ∧ Cond.fieldLink own index q.1 q.2.1 q.2.2.1 ∈ er_T) ∨ (nest = true ∧ ∃ host, Cond.fieldLinkNest own index q.1 q.2.1 q.2.2.1 host ∈ er_Ns)
/-- what the tables say of a class of the memory -/
def er_Cl (ci : Nat) (C : String) (TT : u_T) (NN : Nat) (ty0 : Nat → FieldType) : Prop := ci < 100 ∧ classes[ci]? = some (C, TT, NN) ∧ (∀ w ∈ u_ws C TT NN, w ∈ er_T) ∧ (∀ k, k < NN → parseFieldDescriptor (TT k).2.2.1 = some (ty0 k)) ∧ (∀ a, a < NN → ∀ b, b < NN → a ≠ b → (TT a).2.1 ≠ (TT b).2.1) ∧ er_nf ci = NN ∧ ∀ k, k < NN → defaultValue (ty0 k) = if er_rf ci k = true then .null else .int 0
/-- a field that an instruction names: kind of its object, place, reference or not, final or not, type, declarer -/
def er_Fd (own : String) (index : Nat) (kd : Int) (k : Nat) (r fin : Bool) (ty : FieldType) (dc : String) (nest : Bool) : Prop := ∃ (ci : Nat) (C : String) (TT : u_T) (NN : Nat) (ty0 : Nat → FieldType), kd = (ci : Int) + 1 ∧ er_Cl ci C TT NN ty0 ∧ k < NN ∧ er_rf ci k = r ∧ (TT k).2.2.2 = fin ∧ parseFieldDescriptor (TT k).2.2.1 = some ty ∧ (TT k).1 = dc ∧ er_Lk own index nest (TT k)
section ERH
variable {K : er_K} {l : Launch} {X : er_X} {cc : ByteArray} {own : String} {nL : Nat} {R : Room} {cells slots pc : Nat} {T M : er_Me} {L : List (Nat × er_V)} {st : List er_V}
theorem er_getG (cx : er_Cx K l X cc own nL R) {a kd : Int} {index k : Nat} {r fin : Bool} {ty : FieldType} {dc : String} {nest : Bool} {v : er_V} (hd : decode cc pc = .ok (.getfield index, 3)) (hf : er_Fd own index kd k r fin ty dc nest) (hk : T a (-2) = kd) (hv : er_sv X T M a r k = er_cv X v) (ho : (∀ a i, er_rg (M a i)) → er_ok v) (kk : er_G K cells slots T M (pc + 3) L (v :: st)) : er_G K cells slots T M pc L (.inr a :: st) := by
  obtain ⟨p, e, s, m, args, below, meth, c, Q, rfl, hx, hb, hml, hown, hts, hKK, hXX, hbs⟩ := cx
  intro H locs ls z
  obtain ⟨ci, C, TT, NN, ty0, rfl, ⟨hci, hc, hin, hty, hnm, hnf, -⟩, hkn, rfl, hfi, hpd, hdc, hlk⟩ := hf
  have he := er_at (X := X) z.1 (a := a) (by omega)
  rw [er_cellO hk hci] at he
  have hv2 : (er_fs X T M a ci)[k]? = some (er_cv X v) := by rw [er_fsA (by omega), hv]
  have k2 := kk H locs ls (z.p1.pu (ho z.1.1))
  rcases hlk with ⟨hne, h⟩ | ⟨hne, host, h⟩
  · exact va_get hx hb hts hin hown hKK.1 z.2.2.2.2.1 _ he hc k hkn (hts _ h) (fun _ q => q) hv2 hd k2
  · exact va_getN hx hb hts hin hown hKK.1 z.2.2.2.2.1 _ he hc k hkn (va_Nw.use rfl (hKK.2.1 _ h)) (fun _ q => q) hv2 hd k2
theorem er_geti (cx : er_Cx K l X cc own nL R) {a kd : Int} {index k : Nat} {fin : Bool} {ty : FieldType} {dc : String} {nest : Bool} (hd : decode cc pc = .ok (.getfield index, 3)) (hf : er_Fd own index kd k false fin ty dc nest) (hk : T a (-2) = kd) (kk : er_G K cells slots T M (pc + 3) L (.inl (M a k) :: st)) : er_G K cells slots T M pc L (.inr a :: st) :=
  er_getG (v := .inl (M a k)) cx hd hf hk rfl (fun h => h a k) kk
theorem er_getr (cx : er_Cx K l X cc own nL R) {a kd : Int} {index k : Nat} {fin : Bool} {ty : FieldType} {dc : String} {nest : Bool} (hd : decode cc pc = .ok (.getfield index, 3)) (hf : er_Fd own index kd k true fin ty dc nest) (hk : T a (-2) = kd) (h0 : 0 < T a k) (kk : er_G K cells slots T M (pc + 3) L (.inr (T a k) :: st)) : er_G K cells slots T M pc L (.inr a :: st) :=
  er_getG (v := .inr (T a k)) cx hd hf hk (by unfold er_sv er_ro; rw [if_pos rfl, if_neg (by omega)]; rfl) (fun _ => trivial) kk
theorem er_putG (cx : er_Cx K l X cc own nL R) {a kd : Int} {index k : Nat} {r fin : Bool} {ty : FieldType} {dc : String} {nest : Bool} {v : er_V} {T' M' : er_Me} (hd : decode cc pc = .ok (.putfield index, 3)) (hf : er_Fd own index kd k r fin ty dc nest) (hk : T a (-2) = kd) (hfin : fin = true → er_In K ∧ dc = own ∧ nest = false) (hn : narrow ty (er_cv X v) = er_cv X v) (hfit : fits ty (er_cv X v) = true)
    (hset : ∀ ci, er_rf ci k = r → (er_fs X T M a ci).set k (er_cv X v) = er_fs X T' M' a ci) (hk' : T' a (-2) = T a (-2)) (hT' : 0 < a → T' 0 0 = T 0 0) (ho : ∀ a' : Int, a' ≠ a → 0 < a' → er_cell X T' M' a' = er_cell X T M a') (hg : 0 < a → er_Rg T M → er_ok v → er_Rg T' M')
    (kk : er_G K cells slots T' M' (pc + 3) L st) : er_G K cells slots T M pc L (v :: .inr a :: st) := by
  obtain ⟨p, e, s, m, args, below, meth, c, Q, rfl, hx, hb, hml, hown, hts, hKK, hXX, hbs⟩ := cx
  intro H locs ls z
  obtain ⟨ci, C, TT, NN, ty0, rfl, ⟨hci, hc, hin, hty, hnm, hnf, -⟩, hkn, rfl, rfl, hpd, rfl, hlk⟩ := hf
  have ha0 := (z.1.2.1 a (by omega)).1
  have he := er_at (X := X) z.1 (a := a) (by omega)
  rw [er_cellO hk hci] at he
  have hap := va_apart (own := own) hts hin ty0 hty hnm hKK.1 hc
  obtain ⟨r, h1, cell, q1, q2, q3, q4⟩ := z.2.2.2.2.1 _ _ he
  have hr : r = (C, TT, NN) := Option.some.inj (h1.symm.trans hc)
  subst hr
  obtain ⟨hS, hfc, kC, hkC, hkind⟩ := hKK.1.1 ci _ hc
  obtain ⟨cf, kf, fi, f, hi, hsl⟩ := hS k hkn
  have hlay := hts _ (hin _ (u_in_lay hkn))
  have hst := (u_facts hfc hkC (u_lays hts hin hkn) hi).1
  have hA : er_A X (er_ad X a) := by show X.2.2.1 < er_ad X a; unfold er_ad; rw [if_neg (by omega)]; omega
  have go : ∀ H' : Heap, H'[er_ad X a]? = some (cell.setSlot f.slot (er_cv X v)) → H'.size = H.size → (∀ q, q ≠ er_ad X a → H'[q]? = H[q]?) → W p l e R s m args below meth c H' (locs ++ [⟨er_ad X a, f.slot⟩]) cells slots Q (F0 m (pc + 3) ls (er_st X st)) := by
    intro H' e1 e2 e3
    rw [hsl] at e1
    have hat : va_at X.1 classes (er_ad X a, er_cell X T' M' a) H' := by
      rw [er_cellO (hk'.trans hk) hci, ← hset ci rfl]
      exact ⟨_, hc, t_OB.to (V := updV (vp_V (er_fs X T M a ci)) k (er_cv X v)) ⟨_, e1, q2, q3, t_set q4 hap hkn (er_cv X v)⟩ (fun j _ => vp_updV_set (by rw [er_fsL]; omega) (er_cv X v) j)⟩
    have hP' := z.2.2.2.2.1.set (er_Dw X T M) he hat e3
    rw [er_set ha0 (hT' ha0) ho] at hP'
    exact kk H' _ ls ⟨hg ha0 z.1 z.a1, z.2.1, z.p1.p1.2.2.1, by rw [e2, hT' ha0]; exact z.2.2.2.1, hP', z.2.2.2.2.2.1.put e2 e3 hA, z.2.2.2.2.2.2⟩
  rcases hfb : (TT k).2.2.2 with _ | _
  · unfold u_lay at hlay
    rw [if_neg (by rw [hfb]; decide)] at hlay
    have h6 := u_store hfc hkC hkind hlay hi hpd hn hfit
    rcases hlk with ⟨hne, h⟩ | ⟨hne, host, h⟩
    · exact W.putK hx hb (f := f) ⟨hown, hts _ h, ⟨_, _, _, hi⟩, hst⟩ (by rw [q2]; exact h6) q1 q3 (by rw [hsl]; exact k2_hasslot (q4 k hkn)) rfl rfl hd go
    · exact va_WputK hx hb hown (va_Nw.use rfl (hKK.2.1 _ h)) hi hst (by rw [q2]; exact h6) q1 q3 (by rw [hsl]; exact k2_hasslot (q4 k hkn)) rfl rfl hd go
  · obtain ⟨hin2, hdecl, hnest⟩ := hfin hfb
    unfold u_lay at hlay
    rw [if_pos hfb] at hlay
    have hcf : m.cls = cf := by
      obtain ⟨_, _, c', _, _, _, -, -, hf', -, -, -, hown2, -⟩ := Cond.laysFinal_spec hlay
      have e1 : c' = cf := by have := hi.symm.trans hf'; simp at this; exact this.1.symm
      rw [hdecl] at hown2
      rw [← e1]; exact Option.some.inj (hown.symm.trans hown2)
    have h6 := u_fits hfc hkC hkind (Or.inr hlay) hi hpd hn hfit
    rcases hlk with ⟨hne, h⟩ | ⟨hne, host, h⟩
    · exact W.putFinK hx hb hown (hts _ h) hi hst hcf hin2 (by rw [q2]; exact h6) q1 q3 (by rw [hsl]; exact k2_hasslot (q4 k hkn)) rfl rfl hd go
    · exact absurd (hnest.symm.trans hne) (by decide)
theorem er_puti (cx : er_Cx K l X cc own nL R) {a x kd : Int} {M1 : er_Me} {index k : Nat} {fin : Bool} {dc : String} {nest : Bool} (hd : decode cc pc = .ok (.putfield index, 3)) (hf : er_Fd own index kd k false fin .int dc nest) (hk : T a (-2) = kd) (hfin : fin = true → er_In K ∧ dc = own ∧ nest = false) (hM1 : er_up M a k x = M1) (kk : er_G K cells slots T M1 (pc + 3) L st) : er_G K cells slots T M pc L (.inl x :: .inr a :: st) := by
  subst hM1
  exact er_putG cx hd hf hk hfin rfl rfl (fun ci hr => er_fsM hr) rfl (fun _ => rfl) (fun a' h _ => er_cellM h) (fun _ hg hv => er_RgM hg hv) kk
theorem er_bo {x : Int} (hx : x = 0 ∨ x = 1) : narrow .boolean (.int (Int32.ofInt x)) = .int (Int32.ofInt x) ∧ fits .boolean (.int (Int32.ofInt x)) = true := by
  rcases hx with rfl | rfl <;> exact ⟨by decide +kernel, by decide +kernel⟩
theorem er_putz (cx : er_Cx K l X cc own nL R) {a x kd : Int} {M1 : er_Me} {index k : Nat} {fin : Bool} {dc : String} {nest : Bool} (hd : decode cc pc = .ok (.putfield index, 3)) (hf : er_Fd own index kd k false fin .boolean dc nest) (hk : T a (-2) = kd) (hfin : fin = true → er_In K ∧ dc = own ∧ nest = false) (hx : x = 0 ∨ x = 1) (hM1 : er_up M a k x = M1) (kk : er_G K cells slots T M1 (pc + 3) L st) : er_G K cells slots T M pc L (.inl x :: .inr a :: st) := by
  subst hM1
  exact er_putG cx hd hf hk hfin (er_bo hx).1 (er_bo hx).2 (fun ci hr => er_fsM hr) rfl (fun _ => rfl) (fun a' h _ => er_cellM h) (fun _ hg hv => er_RgM hg hv) kk
theorem er_putr (cx : er_Cx K l X cc own nL R) {a x kd : Int} {T1 : er_Me} {index k : Nat} {fin : Bool} {ty : FieldType} {dc : String} {nest : Bool} (hd : decode cc pc = .ok (.putfield index, 3)) (hf : er_Fd own index kd k true fin ty dc nest) (hk : T a (-2) = kd) (hfin : fin = true → er_In K ∧ dc = own ∧ nest = false) (hn : ∀ q, narrow ty (.ref q) = .ref q) (hfit : ∀ q, fits ty (.ref q) = true) (hx : 0 < x) (hT1 : er_up T a k x = T1) (kk : er_G K cells slots T1 M (pc + 3) L st) : er_G K cells slots T M pc L (.inr x :: .inr a :: st) := by
  subst hT1
  exact er_putG cx hd hf hk hfin (hn _) (hfit _) (fun ci hr => er_fsT hr hx) (if_neg (fun q => by omega)) (fun h => if_neg (fun q => by omega)) (fun a' h _ => er_cellT h) (fun h hg _ => er_RgT hg h (by omega)) kk
-- arrays of ints and booleans
theorem er_iald (cx : er_Cx K l X cc own nL R) {a i : Int} (hd : decode cc pc = .ok (.iaload, 1)) (hk : T a (-2) = 101) (h0 : 0 ≤ i) (h1 : i < T a (-1)) (kk : er_G K cells slots T M (pc + 1) L (.inl (M a i) :: st)) : er_G K cells slots T M pc L (.inl i :: .inr a :: st) := by
  obtain ⟨p, e, s, m, args, below, meth, c, Q, rfl, hx, hb, hml, hown, hts, hKK, hXX, hbs⟩ := cx
  intro H locs ls z
  have he := er_at (X := X) z.1 (a := a) (by omega)
  rw [er_cellI (t := 0) (by omega) (by omega)] at he
  have hb2 := z.1.2.2.1 a
  have k2 := kk H locs ls (z.p1.p1.pu (z.1.1 a i))
  refine va_iald hx hb hKK.1 z.2.2.2.2.1 _ 0 he rfl (er_inI h0 h1 hb2.2) hd ?_
  rw [er_clI h0 (by omega), Int.toNat_of_nonneg h0]
  exact k2
theorem er_zald (cx : er_Cx K l X cc own nL R) {a i : Int} (hd : decode cc pc = .ok (.baload, 1)) (hk : T a (-2) = 102) (h0 : 0 ≤ i) (h1 : i < T a (-1)) (kk : er_G K cells slots T M (pc + 1) L (.inl (M a i) :: st)) : er_G K cells slots T M pc L (.inl i :: .inr a :: st) := by
  obtain ⟨p, e, s, m, args, below, meth, c, Q, rfl, hx, hb, hml, hown, hts, hKK, hXX, hbs⟩ := cx
  intro H locs ls z
  have he := er_at (X := X) z.1 (a := a) (by omega)
  rw [er_cellI (t := 1) (by omega) (by omega)] at he
  have hb2 := z.1.2.2.1 a
  have k2 := kk H locs ls (z.p1.p1.pu (z.1.1 a i))
  refine va_zald hx hb hKK.1 z.2.2.2.2.1 _ 1 he rfl (er_inI h0 h1 hb2.2) hd ?_
  rw [er_clI h0 (by omega), Int.toNat_of_nonneg h0]
  exact k2
theorem er_aald (cx : er_Cx K l X cc own nL R) {a i kd : Int} (hd : decode cc pc = .ok (.aaload, 1)) (hk : T a (-2) = kd) (hkd : kd = 103 ∨ kd = 104) (h0 : 0 ≤ i) (h1 : i < T a (-1)) (hp : 0 < T a i) (kk : er_G K cells slots T M (pc + 1) L (.inr (T a i) :: st)) : er_G K cells slots T M pc L (.inl i :: .inr a :: st) := by
  obtain ⟨p, e, s, m, args, below, meth, c, Q, rfl, hx, hb, hml, hown, hts, hKK, hXX, hbs⟩ := cx
  intro H locs ls z
  have he := er_at (X := X) z.1 (a := a) (by omega)
  have hb2 := z.1.2.2.1 a
  have k2 := kk H locs ls (z.p1.p1.pu (v := .inr (T a i)) trivial)
  have ev : va_rf (er_ro X (T a i)) = .ref (er_ad X (T a i)) := by unfold er_ro; rw [if_neg (by omega)]; rfl
  rcases hkd with rfl | rfl
  · rw [er_cellR (t := 2) (by omega) (by omega)] at he
    refine va_aldq hx hb hKK.1 z.2.2.2.2.1 _ 2 he rfl (er_inI h0 h1 hb2.2) hd ?_
    rw [er_clI h0 (by omega), Int.toNat_of_nonneg h0, ev]
    exact k2
  · rw [er_cellR (t := 3) (by omega) (by omega)] at he
    refine va_aldq hx hb hKK.1 z.2.2.2.2.1 _ 3 he rfl (er_inI h0 h1 hb2.2) hd ?_
    rw [er_clI h0 (by omega), Int.toNat_of_nonneg h0, ev]
    exact k2
theorem er_alen (cx : er_Cx K l X cc own nL R) {a kd : Int} (hd : decode cc pc = .ok (.arraylength, 1)) (hk : T a (-2) = kd) (hkd : 101 ≤ kd ∧ kd ≤ 104) (kk : er_G K cells slots T M (pc + 1) L (.inl (T a (-1)) :: st)) : er_G K cells slots T M pc L (.inr a :: st) := by
  obtain ⟨p, e, s, m, args, below, meth, c, Q, rfl, hx, hb, hml, hown, hts, hKK, hXX, hbs⟩ := cx
  intro H locs ls z
  have he := er_at (X := X) z.1 (a := a) (by omega)
  have hb2 := z.1.2.2.1 a
  have k2 := kk H locs ls (z.p1.pu (v := .inl (T a (-1))) ⟨by omega, hb2.2⟩)
  have ev : Int32.ofNat (T a (-1)).toNat = Int32.ofInt (T a (-1)) := by
    have := er_nIo (T a (-1)).toNat
    rw [Int.toNat_of_nonneg hb2.1] at this
    exact this.symm
  have h4 : kd = 101 ∨ kd = 102 ∨ kd = 103 ∨ kd = 104 := by omega
  rcases h4 with rfl | rfl | rfl | rfl
  · rw [er_cellI (t := 0) (by omega) (by omega)] at he
    exact va_alen hx hb hKK.1 z.2.2.2.2.1 _ 0 he rfl ev hd k2
  · rw [er_cellI (t := 1) (by omega) (by omega)] at he
    exact va_alen hx hb hKK.1 z.2.2.2.2.1 _ 1 he rfl ev hd k2
  · rw [er_cellR (t := 2) (by omega) (by omega)] at he
    exact va_alen hx hb hKK.1 z.2.2.2.2.1 _ 2 he rfl ev hd k2
  · rw [er_cellR (t := 3) (by omega) (by omega)] at he
    exact va_alen hx hb hKK.1 z.2.2.2.2.1 _ 3 he rfl ev hd k2
/-- behind a store into a cell -/
theorem er_Zs {s : State} {H H1 : Heap} {locs : List Loc} {ls : Array Slot} {T' M' : er_Me} {a : Int} {q : Nat} {st' : List er_V} (z : er_Z X s nL T M L st H locs ls) (hk : T a (-2) ≠ 0) (hg : er_Rg T' M') (hst : ∀ v ∈ st', er_ok v) (hT : T' 0 0 = T 0 0) (ho : ∀ a' : Int, a' ≠ a → 0 < a' → er_cell X T' M' a' = er_cell X T M a') (hat : va_at X.1 classes (er_ad X a, er_cell X T' M' a) H1) (e2 : H1.size = H.size) (e3 : ∀ q, q ≠ er_ad X a → H1[q]? = H[q]?) : er_Z X s nL T' M' L st' H1 (locs ++ [⟨er_ad X a, q⟩]) ls := by
  have ha0 := (z.1.2.1 a hk).1
  have hP' := z.2.2.2.2.1.set (er_Dw X T M) (er_at z.1 hk) hat e3
  rw [er_set ha0 hT ho] at hP'
  have hA : er_A X (er_ad X a) := by show X.2.2.1 < er_ad X a; unfold er_ad; rw [if_neg (by omega)]; omega
  exact ⟨hg, z.2.1, hst, by rw [e2, hT]; exact z.2.2.2.1, hP', z.2.2.2.2.2.1.put e2 e3 hA, z.2.2.2.2.2.2⟩
theorem er_updI {M : er_Me} {a i x : Int} (h0 : 0 ≤ i) : updV (fun j => Value.int (Int32.ofInt (M a (j : Nat)))) i.toNat (.int (Int32.ofInt x)) = fun j : Nat => Value.int (Int32.ofInt (er_up M a i x a j)) := by
  funext j
  unfold updV er_up
  by_cases h : j = i.toNat
  · rw [if_pos h, if_pos ⟨rfl, by omega⟩]
  · rw [if_neg h, if_neg (by omega)]
theorem er_iast (cx : er_Cx K l X cc own nL R) {a i x : Int} {M1 : er_Me} (hd : decode cc pc = .ok (.iastore, 1)) (hk : T a (-2) = 101) (h0 : 0 ≤ i) (h1 : i < T a (-1)) (hM1 : er_up M a i x = M1) (kk : er_G K cells slots T M1 (pc + 1) L st) : er_G K cells slots T M pc L (.inl x :: .inl i :: .inr a :: st) := by
  subst hM1
  obtain ⟨p, e, s, m, args, below, meth, c, Q, rfl, hx, hb, hml, hown, hts, hKK, hXX, hbs⟩ := cx
  intro H locs ls z
  have he := er_at (X := X) z.1 (a := a) (by omega)
  rw [er_cellI (t := 0) (by omega) (by omega)] at he
  have hb2 := z.1.2.2.1 a
  have hin := er_inI h0 h1 hb2.2
  refine W.iast (x := Int32.ofInt x) (j := Int32.ofInt i) hx hb (z.2.2.2.2.1 _ _ he) ((hKK.1.2 0 _ rfl).1 (T a (-1)).toNat (fun j => .int (Int32.ofInt (M a j)))) (fun q => by cases q) (by show ¬ (_ ∨ (arrV _ _ _).slots.size ≤ _); rw [arrV_size]; exact hin) rfl rfl hd fun H1 e1 e2 e3 => ?_
  refine kk H1 _ ls (er_Zs z (by omega) (er_RgM z.1 z.a1) z.p1.p1.p1.2.2.1 rfl (fun a' h _ => er_cellM h) ?_ e2 e3)
  rw [er_cellI (t := 0) (by omega) (by omega)]
  show H1[er_ad X a]? = some (vp_cell _ _)
  rw [e1, er_clI h0 (by omega), vp_cell_i, vp_cell_i, arrV_store, er_updI h0]
theorem er_zast (cx : er_Cx K l X cc own nL R) {a i x : Int} {M1 : er_Me} (hd : decode cc pc = .ok (.bastore, 1)) (hk : T a (-2) = 102) (h0 : 0 ≤ i) (h1 : i < T a (-1)) (hbo : x = 0 ∨ x = 1) (hM1 : er_up M a i x = M1) (kk : er_G K cells slots T M1 (pc + 1) L st) : er_G K cells slots T M pc L (.inl x :: .inl i :: .inr a :: st) := by
  subst hM1
  obtain ⟨p, e, s, m, args, below, meth, c, Q, rfl, hx, hb, hml, hown, hts, hKK, hXX, hbs⟩ := cx
  intro H locs ls z
  have he := er_at (X := X) z.1 (a := a) (by omega)
  rw [er_cellI (t := 1) (by omega) (by omega)] at he
  have hb2 := z.1.2.2.1 a
  have hin := er_inI h0 h1 hb2.2
  refine W.zast (x := Int32.ofInt x) (j := Int32.ofInt i) hx hb (z.2.2.2.2.1 _ _ he) ((hKK.1.2 1 _ rfl).1 (T a (-1)).toNat (fun j => .int (Int32.ofInt (M a j)))) (fun q => by cases q) (by show ¬ (_ ∨ (arrV _ _ _).slots.size ≤ _); rw [arrV_size]; exact hin) rfl rfl hd fun H1 e1 e2 e3 => ?_
  refine kk H1 _ ls (er_Zs z (by omega) (er_RgM z.1 z.a1) z.p1.p1.p1.2.2.1 rfl (fun a' h _ => er_cellM h) ?_ e2 e3)
  rw [er_cellI (t := 1) (by omega) (by omega)]
  show H1[er_ad X a]? = some (vp_cell _ _)
  rw [e1, er_clI h0 (by omega), (er_bo hbo).1, vp_cell_i, vp_cell_i, arrV_store, er_updI h0]
/-- the script -/
def er_xs (X : er_X) (i : Int) : Int := (X.2.2.2.2.2 i.toNat).toInt
def er_xn (X : er_X) : Int := (X.2.2.2.2.1 : Int)
theorem er_sald (cx : er_Cx K l X cc own nL R) {i : Int} (hd : decode cc pc = .ok (.iaload, 1)) (h0 : 0 ≤ i) (h1 : i < er_xn X) (kk : er_G K cells slots T M (pc + 1) L (.inl (er_xs X i) :: st)) : er_G K cells slots T M pc L (.inl i :: .inr 0 :: st) := by
  obtain ⟨p, e, s, m, args, below, meth, c, Q, rfl, hx, hb, hml, hown, hts, hKK, hXX, hbs⟩ := cx
  intro H locs ls z
  have h2 := hXX.2.2
  have h1 : i < (X.2.2.2.2.1 : Int) := h1
  have k2 := kk H locs ls (z.p1.p1.pu (v := .inl (er_xs X i)) (er_rgI _))
  have ev : er_st X (.inl (er_xs X i) :: st) = .int (X.2.2.2.2.2 i.toNat) :: er_st X st := congrArg (· :: er_st X st) (er_cvI _)
  rw [ev] at k2
  refine va_sld (A := er_A X) (H0 := s.heap) (locs := locs) hx hb hXX.1 (Nat.lt_of_le_of_lt hXX.2.1 hbs) (show ¬ X.2.2.1 < X.2.2.2.1 from Nat.not_lt.mpr hXX.2.1) z.2.2.2.2.2.1 (i := Int32.ofInt i) (by have := er_inI h0 h1 (by omega); exact this) hd ?_
  rw [er_clI h0 (by omega)]
  exact k2
theorem er_salen (cx : er_Cx K l X cc own nL R) (hd : decode cc pc = .ok (.arraylength, 1)) (kk : er_G K cells slots T M (pc + 1) L (.inl (er_xn X) :: st)) : er_G K cells slots T M pc L (.inr 0 :: st) := by
  obtain ⟨p, e, s, m, args, below, meth, c, Q, rfl, hx, hb, hml, hown, hts, hKK, hXX, hbs⟩ := cx
  intro H locs ls z
  have h2 := hXX.2.2
  have k2 := kk H locs ls (z.p1.pu (v := .inl (er_xn X)) (show er_rg (X.2.2.2.2.1 : Int) from ⟨by omega, by omega⟩))
  have ev : er_st X (.inl (er_xn X) :: st) = .int (Int32.ofNat X.2.2.2.2.1) :: er_st X st := congrArg (fun q => Value.int q :: er_st X st) (er_nIo _)
  rw [ev] at k2
  exact va_slen (A := er_A X) (H0 := s.heap) (locs := locs) hx hb hXX.1 (Nat.lt_of_le_of_lt hXX.2.1 hbs) (show ¬ X.2.2.1 < X.2.2.2.1 from Nat.not_lt.mpr hXX.2.1) z.2.2.2.2.2.1 hd k2
end ERH
end
section
/-! rows that make cells, call and return -/
/-- behind a new cell -/
theorem er_Zn {X : er_X} {nL : Nat} {T M : er_Me} {L : List (Nat × er_V)} {st : List er_V} {s : State} {H H1 : Heap} {locs : List Loc} {ls : Array Slot} {kd n : Int} (z : er_Z X s nL T M L st H locs ls) (hbs : X.2.2.1 < s.heap.size) (hn : 0 ≤ n ∧ n < 2147483648) (hat : va_at X.1 classes (H.size, er_cell X (er_nw T kd n) (er_mw M (T 0 0 + 1)) (T 0 0 + 1)) H1) (e2 : H1.size = H.size + 1) (e3 : ∀ q, q < H.size → H1[q]? = H[q]?) : er_Z X s nL (er_nw T kd n) (er_mw M (T 0 0 + 1)) L (.inr (T 0 0 + 1) :: st) H1 locs ls ∧ er_ad X (T 0 0 + 1) = H.size := by
  obtain ⟨hg, hL, hs, hz, hP, hS, hl⟩ := z
  have h4 := hg.2.2.2
  refine ⟨⟨er_RgN hg hn, hL, ?_, ?_, ?_, ?_, hl⟩, ?_⟩
  · intro v hv
    rcases List.mem_cons.mp hv with e | e
    · rw [e]; trivial
    · exact hs v e
  · rw [e2, er_nw0 T h4, hz]
    omega
  · rw [er_wsN hg, ← hz]
    refine (hP.kept (fun k x hx => e3 x.1 ((hP k x hx).lt))).app (fun k x hx => ?_)
    have hk : k < 1 := (List.getElem?_eq_some_iff.mp hx).1
    rw [show k = 0 by omega] at hx
    cases hx
    exact hat
  · exact ⟨Nat.le_trans hS.1 (by omega), fun x h1 h2 => (e3 x (Nat.lt_of_lt_of_le h1 hS.1)).trans (hS.2.1 x h1 h2), hS.2.2⟩
  · unfold er_ad
    rw [if_neg (by omega), hz]
    omega
section ERN
variable {K : er_K} {l : Launch} {X : er_X} {cc : ByteArray} {own : String} {nL : Nat} {R : Room} {cells slots pc : Nat} {T M : er_Me} {L : List (Nat × er_V)} {st : List er_V}
theorem er_new (cx : er_Cx K l X cc own nL R) {index ci NN : Nat} {kd : Int} {C : String} {TT : u_T} {ty0 : Nat → FieldType} (hd : decode cc pc = .ok (.new index, 3)) (hkd : kd = (ci : Int) + 1) (hcl : er_Cl ci C TT NN ty0) (h1 : Cond.classLink own index C ∈ er_T) (h2 : Cond.instantiable C NN ∈ er_T) (h3 : Cond.initialized C ∈ er_T) (hc : cells + 1 ≤ R.cells) (hs : slots + NN ≤ R.slots)
    {T1 M1 : er_Me} {b : Int} (hT1 : er_nw T kd 0 = T1) (hb1 : T 0 0 + 1 = b) (hM1 : er_mw M b = M1) (kk : er_G K (cells + 1) (slots + NN) T1 M1 (pc + 3) L (.inr b :: st)) : er_G K cells slots T M pc L st := by
  subst hM1
  subst hb1
  subst hT1
  obtain ⟨p, e, s, m, args, below, meth, c, Q, rfl, hx, hb, hml, hown, hts, hKK, hXX, hbs⟩ := cx
  intro H locs ls z
  subst hkd
  obtain ⟨hci, hcc, hin, hty, hnm, hnf, hdf⟩ := hcl
  have hKn := hKK.1.1 ci _ hcc
  refine W.newcK hx hb hown (hts _ h1) (hts _ h2) (hts _ h3) rfl hd hc hs hKn.2.1 rfl fun H1 kC hkC e1 z1 o1 => ?_
  have hcell : er_cell X (er_nw T ((ci : Int) + 1) 0) (er_mw M (T 0 0 + 1)) (T 0 0 + 1) = .inr (ci, er_fs X (er_nw T ((ci : Int) + 1) 0) (er_mw M (T 0 0 + 1)) (T 0 0 + 1) ci) := er_cellO (by rw [er_nwA, if_neg (by decide), if_pos rfl]) hci
  have hz := er_Zn (kd := (ci : Int) + 1) (n := 0) (H1 := H1) z hbs (by omega) (by
    rw [hcell]
    refine ⟨_, hcc, (u_born ty0 hts hin hKn hkC e1 hty).to (fun j hj => ?_)⟩
    have hj2 : j < er_nf ci := by rw [hnf]; exact hj
    rw [hdf j hj]
    show _ = (er_fs _ _ _ _ _).getD j .null
    rw [List.getD_eq_getElem?_getD, er_fsA hj2]
    unfold er_sv
    by_cases hr : er_rf ci j = true
    · rw [if_pos hr, if_pos hr, er_nwA, if_neg (by omega), if_neg (by omega)]
      rfl
    · rw [if_neg hr, if_neg hr]
      unfold er_mw
      rw [if_pos rfl, er_i0]
      rfl) z1 o1
  have k2 := kk H1 locs ls hz.1
  have ev : er_st X (.inr (T 0 0 + 1) :: st) = .ref H.size :: er_st X st := congrArg (fun q => Value.ref q :: er_st X st) hz.2
  rw [ev] at k2
  exact k2
theorem er_newa (cx : er_Cx K l X cc own nL R) {atype : ArrayType} {t N : Nat} {n kd : Int} (hd : decode cc pc = .ok (.newarray atype, 2)) (hw : Cond.arrayClass (newarray.typeOf atype) ∈ er_T) (ht : t < 2) (hty : newarray.typeOf atype = if t = 0 then .int else .boolean) (hkd : kd = (t : Int) + 101) (hn : n = (N : Int)) (hN : N ≤ 100000) (hc : cells + 1 ≤ R.cells) (hs : slots + N ≤ R.slots)
    {T1 M1 : er_Me} {b : Int} (hT1 : er_nw T kd n = T1) (hb1 : T 0 0 + 1 = b) (hM1 : er_mw M b = M1) (kk : er_G K (cells + 1) (slots + N) T1 M1 (pc + 2) L (.inr b :: st)) : er_G K cells slots T M pc L (.inl n :: st) := by
  subst hM1
  subst hb1
  subst hT1
  obtain ⟨p, e, s, m, args, below, meth, c, Q, rfl, hx, hb, hml, hown, hts, hKK, hXX, hbs⟩ := cx
  intro H locs ls z
  subst hkd
  subst hn
  have hcl : (Int32.ofInt (N : Int)).toNatClampNeg = N := by rw [er_clI (by omega) (by omega)]; rfl
  have hneg : ¬ Int32.ofInt (N : Int) < 0 := by rw [er_nIo]; exact nI_pos (by omega)
  have hby : N * componentBytes (newarray.typeOf atype) ≤ 536870912 := by
    have : componentBytes (newarray.typeOf atype) ≤ 8 := by cases atype <;> decide
    calc N * componentBytes (newarray.typeOf atype) ≤ 100000 * 8 := Nat.mul_le_mul hN this
      _ ≤ 536870912 := by decide
  have h2 : t = 0 ∨ t = 1 := by omega
  refine va_newaK hx hb (hts _ hw) rfl hd rfl hneg hcl hby hc hs rfl fun H1 cA e1 z1 o1 hAr hNm => ?_
  have hz := er_Zn (kd := (t : Int) + 101) (n := (N : Int)) (H1 := H1) z.p1 hbs (by omega) (by
    rw [er_cellI (t := t) (by rw [er_nwA, if_neg (by decide), if_pos rfl]) ht]
    show H1[H.size]? = some (vp_cell _ _)
    rw [e1, vp_cell_i]
    have hA : cA = X.2.1 t := by
      rw [hty] at hNm
      rcases h2 with rfl | rfl
      · exact Option.some.inj (hNm.symm.trans (hKK.1.2 0 _ rfl).2)
      · exact Option.some.inj (hNm.symm.trans (hKK.1.2 1 _ rfl).2)
    have hL : (er_nw T ((t : Int) + 101) (N : Int) (T 0 0 + 1) (-1)).toNat = N := by rw [er_nwA, if_pos rfl]; rfl
    rw [hL, hA]
    have hdv : (fun _ : Nat => defaultValue (newarray.typeOf atype)) = fun j : Nat => Value.int (Int32.ofInt (er_mw M (T 0 0 + 1) (T 0 0 + 1) (j : Int))) := by
      funext j
      unfold er_mw
      rw [if_pos rfl, er_i0, hty]
      rcases h2 with rfl | rfl <;> rfl
    rw [hdv]) z1 o1
  have k2 := kk H1 locs ls hz.1
  have ev : er_st X (.inr (T 0 0 + 1) :: st) = .ref H.size :: er_st X st := congrArg (fun q => Value.ref q :: er_st X st) hz.2
  rw [ev] at k2
  exact k2
theorem er_newq (cx : er_Cx K l X cc own nL R) {index t : Nat} {C : String} {n kd : Int} (hd : decode cc pc = .ok (.anewarray index, 3)) (hlk : Cond.classLink own index C ∈ er_T) (hao : C ∈ er_AOs) (ht : t = 2 ∧ C = er_O2 ∨ t = 3 ∧ C = er_O3) (hkd : kd = (t : Int) + 101) (h0 : 0 ≤ n) (hN : n ≤ 9) (hc : cells + 1 ≤ R.cells) (hs : slots + 9 ≤ R.slots)
    {T1 M1 : er_Me} {b : Int} (hT1 : er_nw T kd n = T1) (hb1 : T 0 0 + 1 = b) (hM1 : er_mw M b = M1) (kk : er_G K (cells + 1) (slots + 9) T1 M1 (pc + 3) L (.inr b :: st)) : er_G K cells slots T M pc L (.inl n :: st) := by
  subst hM1
  subst hb1
  subst hT1
  obtain ⟨p, e, s, m, args, below, meth, c, Q, rfl, hx, hb, hml, hown, hts, hKK, hXX, hbs⟩ := cx
  intro H locs ls z
  subst hkd
  obtain ⟨N, rfl⟩ := Int.eq_ofNat_of_zero_le h0
  have hcl : (Int32.ofInt (N : Int)).toNatClampNeg = N := by rw [er_clI (by omega) (by omega)]; rfl
  have hneg : ¬ Int32.ofInt (N : Int) < 0 := by rw [er_nIo]; exact nI_pos (by omega)
  refine W.anew hx hb hown (hts _ hlk) (va_AO.use (hKK.2.2 _ hao)) rfl hd rfl hneg (by rw [hcl]; omega) hc (by rw [hcl]; omega) fun cA kA comp f1 f2 f3 f4 => ?_
  rw [hcl]
  refine W.widen (k := cells + 1) (n := slots + 9) (Nat.le_refl _) (by omega) ?_
  generalize hH1 : H.push ({ cls := cA, slots := Array.replicate N .null, vm := .none } : Cell) = H1
  have z1 : H1.size = H.size + 1 := by rw [← hH1, Array.size_push]
  have e1 : H1[H.size]? = some (arrV cA N (fun _ => .null)) := by rw [← hH1, Array.getElem?_push_size, ← arrV_new]
  have o1 : ∀ q : Nat, q < H.size → H1[q]? = H[q]? := fun q hq => by rw [← hH1, Array.getElem?_push, if_neg (Nat.ne_of_lt hq)]
  have hz := er_Zn (kd := (t : Int) + 101) (n := (N : Int)) (H1 := H1) z.p1 hbs (by omega) (by
    rw [er_cellR (t := t) (by rw [er_nwA, if_neg (by decide), if_pos rfl]) (by omega)]
    show H1[H.size]? = some (vp_cell _ _)
    rw [e1, vp_cell_q]
    have hA : cA = X.2.1 t := by
      rcases ht with ⟨rfl, rfl⟩ | ⟨rfl, rfl⟩
      · obtain ⟨_, _, _, _, _, h4⟩ := (hKK.1.2 2 _ rfl).2
        exact Option.some.inj (f1.symm.trans h4)
      · obtain ⟨_, _, _, _, _, h4⟩ := (hKK.1.2 3 _ rfl).2
        exact Option.some.inj (f1.symm.trans h4)
    have hL : (er_nw T ((t : Int) + 101) (N : Int) (T 0 0 + 1) (-1)).toNat = N := by rw [er_nwA, if_pos rfl]; rfl
    rw [hL, hA]
    have hdv : (fun _ : Nat => Value.null) = fun j : Nat => va_rf (er_ro X (er_nw T ((t : Int) + 101) (N : Int) (T 0 0 + 1) (j : Int))) := by
      funext j
      rw [er_nwA, if_neg (by omega), if_neg (by omega)]
      rfl
    rw [hdv]) z1 o1
  have k2 := kk H1 locs ls hz.1
  have ev : er_st X (.inr (T 0 0 + 1) :: st) = .ref H.size :: er_st X st := congrArg (fun q => Value.ref q :: er_st X st) hz.2
  rw [ev] at k2
  exact k2
theorem er_aast (cx : er_Cx K l X cc own nL R) {a i y kd ko : Int} (hd : decode cc pc = .ok (.aastore, 1)) (hk : T a (-2) = kd) (ho : T y (-2) = ko) {ci t : Nat} {C : String} {TT : u_T} {NN : Nat} {ty0 : Nat → FieldType} (hcl : er_Cl ci C TT NN ty0) (hko : ko = (ci : Int) + 1) (hkd : kd = (t : Int) + 101) (ht : t = 2 ∧ C = er_O2 ∨ t = 3 ∧ C = er_O3) (h0 : 0 ≤ i) (h1 : i < T a (-1))
    {T1 : er_Me} (hT1 : er_up T a i y = T1) (kk : er_G K cells slots T1 M (pc + 1) L st) : er_G K cells slots T M pc L (.inr y :: .inl i :: .inr a :: st) := by
  subst hT1
  obtain ⟨p, e, s, m, args, below, meth, c, Q, rfl, hx, hb, hml, hown, hts, hKK, hXX, hbs⟩ := cx
  intro H locs ls z
  subst hkd
  subst hko
  obtain ⟨hci, hcc, -⟩ := hcl
  have hb2 := z.1.2.2.1 a
  have ha0 := (z.1.2.1 a (by omega)).1
  have hy0 := (z.1.2.1 y (by omega)).1
  have he := er_at (X := X) z.1 (a := a) (by omega)
  rw [er_cellR (t := t) hk (by omega)] at he
  have hv := er_at (X := X) z.1 (a := y) (by omega)
  rw [er_cellO ho hci] at hv
  obtain ⟨r', hr', cellV, g1, g2, g3, -⟩ := z.2.2.2.2.1 _ _ hv
  have hcls := (hKK.1.1 ci _ hcc).2
  have htt : va_RA s (X.2.1 t) (.object C) := by
    rcases ht with ⟨rfl, rfl⟩ | ⟨rfl, rfl⟩
    · exact (hKK.1.2 2 _ rfl).2
    · exact (hKK.1.2 3 _ rfl).2
  obtain ⟨kA, comp, k1, k2, k3, -⟩ := htt
  have hcomp : comp = X.1.1 ci := Option.some.inj (k3.symm.trans hcls.1)
  subst hcomp
  obtain ⟨kC, hkC, -⟩ := hcls.2
  have hin := er_inI h0 h1 hb2.2
  have hlt : (Int32.ofInt i).toNatClampNeg < (T a (-1)).toNat := Nat.not_le.mp fun q => hin (Or.inr q)
  refine W.aast (j := Int32.ofInt i) hx hb (z.2.2.2.2.1 _ _ he) (fun q h => by cases h) (fun h => by cases h) k1 k2 rfl hkC ⟨fun q => hin (Or.inl q), by show _ < (arrV _ _ _).slots.size; rw [arrV_size]; exact hlt⟩ g1 (fun q h => by rw [g3] at h; cases h) (by rw [g2]; exact hkC) (by rw [g2]; exact va_assign hcls) rfl rfl hd fun H1 e1 e2 e3 => ?_
  have hkk : er_up T a i y a (-2) = (t : Int) + 101 := (if_neg (fun q => by omega)).trans hk
  have hll : er_up T a i y a (-1) = T a (-1) := if_neg (fun q => by omega)
  refine kk H1 _ ls (er_Zs z (by omega) (er_RgT z.1 ha0 h0) z.p1.p1.p1.2.2.1 (if_neg (fun q => by omega)) (fun a' h _ => er_cellT h) ?_ e2 e3)
  rw [er_cellR (t := t) hkk (by omega), hll]
  show H1[er_ad X a]? = some (vp_cell _ _)
  rw [e1, er_clI h0 (by omega), vp_cell_q, vp_cell_q, arrV_store]
  congr 2
  funext j
  unfold updV er_up
  by_cases h : j = i.toNat
  · rw [if_pos h, if_pos ⟨rfl, by omega⟩]
    unfold er_ro
    rw [if_neg (by omega)]
    rfl
  · rw [if_neg h, if_neg (by omega)]
-- locals: fewer, in another order
theorem er_sb (cx : er_Cx K l X cc own nL R) (ks : List Nat) {L' : List (Nat × er_V)} (hl : ks.filterMap (fun k => L[k]?) = L') (kk : er_G K cells slots T M pc L' st) : er_G K cells slots T M pc L st := by
  obtain ⟨p, e, s, m, args, below, meth, c, Q, rfl, hx, hb, hml, hown, hts, hKK, hXX, hbs⟩ := cx
  intro H locs ls z
  have hm : ∀ q ∈ L', q ∈ L := by
    intro q hq
    rw [← hl] at hq
    obtain ⟨k, -, hk⟩ := List.mem_filterMap.mp hq
    exact List.mem_of_getElem? hk
  refine kk H locs ls (z.lo (fun q hq => z.2.1 q (hm q hq)) ⟨z.2.2.2.2.2.2.1, z.2.2.2.2.2.2.2.1, fun q hq => ?_⟩)
  obtain ⟨w, hw, rfl⟩ := List.mem_map.mp hq
  exact z.2.2.2.2.2.2.2.2 _ (List.mem_map.mpr ⟨w, hm w hw, rfl⟩)
theorem er_nm {x y : Int} (h : x = y) (kk : er_G K cells slots T M pc L (.inl y :: st)) : er_G K cells slots T M pc L (.inl x :: st) := by
  subst h
  exact kk
theorem er_wd {k n : Nat} (h1 : cells ≤ k) (h2 : slots ≤ n) (kk : er_G K k n T M pc L st) : er_G K cells slots T M pc L st := by
  obtain ⟨p, l, e, R, s, m, args, below, meth, c, Q, nL, X⟩ := K
  exact fun H locs ls z => W.widen h1 h2 (kk H locs ls z)
theorem er_obj (cx : er_Cx K l X cc own nL R) {index : Nat} {a : Int} (hd : decode cc pc = .ok (.invokespecial index, 3)) (h1 : Cond.methodLink own index Lib.objectInit ∈ er_T) (h2 : Cond.instanceMethod Lib.objectInit ∈ er_T) (h3 : Cond.code Lib.objectInit ⟨#[0xb1]⟩ 1 none ∈ er_T) (hf : 1 ≤ R.frames) (hl : st.length + 12 ≤ R.locals) (kk : er_G K cells slots T M (pc + 3) L st) : er_G K cells slots T M pc L (.inr a :: st) := by
  obtain ⟨p, e, s, m, args, below, meth, c, Q, rfl, hx, hb, hml, hown, hts, hKK, hXX, hbs⟩ := cx
  intro H locs ls z
  refine W.objInit hx hb hown (hts _ h1) (hts _ h2) (hts _ h3) rfl (by rw [hml]; exact z.2.2.2.2.2.2.1) rfl hd hf ?_ (kk H locs ls z.p1)
  show 2 * 0 + _ + 12 ≤ _
  have := er_sum X st
  unfold er_st at this
  omega
theorem er_mmax (cx : er_Cx K l X cc own nL R) {index : Nat} {x y : Int} (hd : decode cc pc = .ok (.invokestatic index, 3)) (h1 : Cond.methodLink own index Lib.Math.max.name ∈ er_T) (h2 : Cond.static Lib.Math.max.name ∈ er_T) (h3 : Cond.initialized "java/lang/Math" ∈ er_T) (h4 : Cond.code Lib.Math.max.name Lib.Math.max.code 2 (some .int) ∈ er_T) (hf : 1 ≤ R.frames) (hl : st.length + 13 ≤ R.locals) (hc : cells ≤ R.cells) (hs : slots ≤ R.slots) (kk : er_G K cells slots T M (pc + 3) L (.inl (er_max x y) :: st)) : er_G K cells slots T M pc L (.inl y :: .inl x :: st) := by
  obtain ⟨p, e, s, m, args, below, meth, c, Q, rfl, hx, hb, hml, hown, hts, hKK, hXX, hbs⟩ := cx
  intro H locs ls z
  have hiff := er_ltI (x := x) (y := y) z.a2 z.a1
  refine va_mmax hx hb (hml.trans z.2.2.2.2.2.2.1.symm) hown (hts _ h1) (hts _ h2) (hts _ h3) (hts _ h4) hf (by have := er_sum X st; unfold er_st at this; omega) hc hs hd ?_
  have k2 := kk H locs ls (z.p1.p1.pu (v := .inl (er_max x y)) (by unfold er_max; show er_rg _; split; exact z.a1; exact z.a2))
  unfold er_max at k2
  by_cases h : x < y
  · rw [if_pos h] at k2
    rw [if_pos (hiff.mpr h)]
    exact k2
  · rw [if_neg h] at k2
    rw [if_neg (fun q => h (hiff.mp q))]
    exact k2
theorem er_mmin (cx : er_Cx K l X cc own nL R) {index : Nat} {x y : Int} (hd : decode cc pc = .ok (.invokestatic index, 3)) (h1 : Cond.methodLink own index Lib.Math.min.name ∈ er_T) (h2 : Cond.static Lib.Math.min.name ∈ er_T) (h3 : Cond.initialized "java/lang/Math" ∈ er_T) (h4 : Cond.code Lib.Math.min.name Lib.Math.min.code 2 (some .int) ∈ er_T) (hf : 1 ≤ R.frames) (hl : st.length + 13 ≤ R.locals) (hc : cells ≤ R.cells) (hs : slots ≤ R.slots) (kk : er_G K cells slots T M (pc + 3) L (.inl (er_min x y) :: st)) : er_G K cells slots T M pc L (.inl y :: .inl x :: st) := by
  obtain ⟨p, e, s, m, args, below, meth, c, Q, rfl, hx, hb, hml, hown, hts, hKK, hXX, hbs⟩ := cx
  intro H locs ls z
  have hiff := er_ltI (x := y) (y := x) z.a1 z.a2
  refine va_mmin hx hb (hml.trans z.2.2.2.2.2.2.1.symm) hown (hts _ h1) (hts _ h2) (hts _ h3) (hts _ h4) hf (by have := er_sum X st; unfold er_st at this; omega) hc hs hd ?_
  have k2 := kk H locs ls (z.p1.p1.pu (v := .inl (er_min x y)) (by unfold er_min; show er_rg _; split; exact z.a1; exact z.a2))
  unfold er_min at k2
  by_cases h : y < x
  · rw [if_pos h] at k2
    rw [if_pos (hiff.mpr h)]
    exact k2
  · rw [if_neg h] at k2
    rw [if_neg (fun q => h (hiff.mp q))]
    exact k2
-- returns
theorem er_iret {ret : Option FieldType} {mc ms : Nat} {x : Int} {T' M' : er_Me} {r : Option er_V} (rt : er_Rt K X cc ret mc ms r T' M') (hr : ret = some .int ∨ ret = some .boolean ∧ (x = 0 ∨ x = 1)) (hd : decode cc pc = .ok (.ireturn, 1)) (hc : cells ≤ mc) (hs : slots ≤ ms) (he : some (Sum.inl x) = r ∧ T = T' ∧ M = M') : er_G K cells slots T M pc L [.inl x] := by
  obtain ⟨p, l, e, R, s, m, args, below, meth, c, nL, rfl, hx, hb, hrt, hlk⟩ := rt
  obtain ⟨rfl, rfl, rfl⟩ := he
  intro H locs ls z
  refine W.widen hc hs ?_
  have hq : ∀ t : State, t.heap = H → s.WarmedH t.vm → er_Qc X (some (.inl x)) T M args s (.returned (some (.int (Int32.ofInt x)))) t := fun t ht _ => ⟨⟨rfl, fun v hv => by rw [← Option.some.inj hv]; exact z.a1, z.1, by rw [ht]; exact z.2.2.2.1, by rw [ht]; exact z.2.2.2.2.1⟩, z.2.2.2.2.2.1.F ht⟩
  rcases hr with rfl | ⟨rfl, h01⟩
  · exact W.iret hx hb hrt hq z.2.2.2.2.2.1.2.2 hd hlk
  · exact W.zret hx hb hrt (er_bo h01).1 hq z.2.2.2.2.2.1.2.2 hd hlk
theorem er_vret {mc ms : Nat} {T' M' : er_Me} {r : Option er_V} (rt : er_Rt K X cc none mc ms r T' M') (hd : decode cc pc = .ok (.return_, 1)) (hc : cells ≤ mc) (hs : slots ≤ ms) (he : none = r ∧ T = T' ∧ M = M') : er_G K cells slots T M pc L [] := by
  obtain ⟨p, l, e, R, s, m, args, below, meth, c, nL, rfl, hx, hb, hrt, hlk⟩ := rt
  obtain ⟨rfl, rfl, rfl⟩ := he
  intro H locs ls z
  refine W.widen hc hs ?_
  have hq : ∀ t : State, t.heap = H → s.WarmedH t.vm → er_Qc X none T M args s (.returned none) t := fun t ht _ => ⟨⟨rfl, fun v hv => (by cases hv), z.1, by rw [ht]; exact z.2.2.2.1, by rw [ht]; exact z.2.2.2.2.1⟩, z.2.2.2.2.2.1.F ht⟩
  exact W.vret hx hb hrt hq z.2.2.2.2.2.1.2.2 hd hlk
end ERN
end
section
/-! calls: the callee takes the whole memory -/
def er_My (own : String) (index : Nat) (y : MethodName) (cc : ByteArray) (maxL : Nat) (ret : Option FieldType) (n : Nat) (nest : Bool) : Prop := Cond.code y cc maxL ret ∈ er_T ∧ Cond.initialized y.cls ∈ er_T ∧ ((nest = false ∧ Cond.methodLink own index y ∈ er_T) ∨ (nest = true ∧ ∃ host, Cond.methodLinkNest own index y host ∈ er_Ns)) ∧ (y.cls ≠ "java/lang/invoke/MethodHandle" ∧ y.cls ≠ "java/lang/invoke/VarHandle" ∧ (parseMethodDescriptor y.desc).map (fun d => d.parameters.length) = some n)
def er_MV (own : String) (index : Nat) (y : MethodName) (cc : ByteArray) (maxL : Nat) (ret : Option FieldType) (n : Nat) (nest : Bool) (kd : Int) : Prop := er_My own index y cc maxL ret n nest ∧ Cond.instanceMethod y ∈ er_T ∧ ∃ (ci : Nat) (q : vw_C), classes[ci]? = some q ∧ (kd = (ci : Int) + 1 ∧ ci < 100) ∧ Cond.selects q.1 y y ∈ er_T
def er_MI (own : String) (index : Nat) (y : MethodName) (cc : ByteArray) (maxL : Nat) (n : Nat) (nest : Bool) : Prop := er_My own index y cc maxL none n nest ∧ y.name = "<init>" ∧ Cond.instanceMethod y ∈ er_T
def er_MS (own : String) (index : Nat) (y : MethodName) (cc : ByteArray) (maxL : Nat) (ret : Option FieldType) (n : Nat) (nest : Bool) : Prop := er_My own index y cc maxL ret n nest ∧ Cond.static y ∈ er_T
theorem er_goodC {y : MethodName} {cc : ByteArray} {maxL : Nat} {ret : Option FieldType} (h : Cond.code y cc maxL ret ∈ er_T) : GoodIn er_T (.code y cc maxL ret :: er_T) := by
  intro w hw
  rcases List.mem_cons.mp hw with e | e
  · rw [e]; exact er_good _ h
  · exact er_good _ e
theorem er_okA {st0 As st : List er_V} {b : Int} (h : ∀ v ∈ st0, er_ok v) (hs : st0 = As.reverse ++ .inr b :: st) : ∀ v ∈ (Sum.inr b :: As : List er_V), er_ok v := by
  intro v hv
  rcases List.mem_cons.mp hv with e | e
  · rw [e]; trivial
  · exact h v (by rw [hs]; exact List.mem_append_left _ (List.mem_reverse.mpr e))
section ERC
variable {l : Launch} {X : er_X} {cc : ByteArray} {own : String} {nL : Nat} {R : Room} {cells slots pc : Nat} {T M : er_Me} {L : List (Nat × er_V)} {st : List er_V}
theorem er_run {p : Program} {e : Env} {s : State} {m : MethodId} {args : Array Value} {below : List Frame} {meth : Method} {c : Code} {Q : State → Prop} {H : Heap} {locs : List Loc} {ls : Array Slot} {st0 : List er_V} {mc ms : Nat} {r : Option er_V} {T' M' : er_Me} {av : Array Value} (hr : va_Run p l e R s m args below meth c H locs cells slots mc ms (F0 m pc ls (er_st X st0)) (er_st X st) (er_Qc X r T' M' av) (er_A X)) (z : er_Z X s nL T M L st0 H locs ls) (hst : ∀ v ∈ st, er_ok v)
    (kk : er_G (p, l, e, R, s, m, args, below, meth, c, Q, nL, X) (cells + mc) (slots + ms) T' M' (pc + 3) L (r.toList ++ st)) : W p l e R s m args below meth c H locs cells slots Q (F0 m pc ls (er_st X st0)) := by
  intro U hU XS
  obtain ⟨v, st₀, t, U', LL, h0, X', hL, e1, e2, ⟨⟨hv, hok, hg, hz, hP⟩, hz2, hk⟩, stp⟩ := hr U hU XS
  have hv2 : v = r.map (er_cv X) := Outcome.returned.inj hv
  subst hv2
  rw [h0] at hz2 hk
  have hS := z.2.2.2.2.2.1
  have h1 : ∀ w ∈ r.toList ++ st, er_ok w := by
    intro w hw
    rcases List.mem_append.mp hw with h | h
    · cases r with
      | none => cases h
      | some x => rw [List.mem_singleton.mp h]; exact hok x rfl
    · exact hst w h
  have h2 : ∀ q ∈ locs ++ LL, er_A X q.base := by
    intro q hq
    rcases List.mem_append.mp hq with h | h
    · exact hS.2.2 q h
    · exact hL q h
  obtain ⟨t2, a1, b1⟩ := kk U'.heap (locs ++ LL) ls ⟨hg, z.2.1, h1, by rw [e1]; exact hz, by rw [e1]; exact hP, ⟨Nat.le_trans hS.1 (by rw [e1]; exact hz2), fun q h1 h2 => by rw [e1, hk q (Nat.lt_of_lt_of_le h1 hS.1) h2]; exact hS.2.1 q h1 h2, h2⟩, z.2.2.2.2.2.2⟩ U' rfl X'
  have es : er_st X (r.toList ++ st) = (r.map (er_cv X)).toList ++ er_st X st := by cases r <;> rfl
  rw [es] at a1
  exact ⟨t2, stp t2 a1, b1⟩
variable {K : er_K} {index n maxL : Nat} {y : MethodName} {cd : ByteArray} {ret : Option FieldType} {rm : Room} {nest : Bool} {As : List er_V} {r : Option er_V} {T' M' : er_Me} {st0 : List er_V}
theorem er_callV (cx : er_Cx K l X cc own nL R) {b kd : Int} (hM : (∀ v ∈ (Sum.inr b :: As : List er_V), er_ok v) → er_Ct l X y cd maxL ret rm (.inr b :: As) T M r T' M') (hm : er_MV own index y cd maxL ret n nest kd) (hk : T b (-2) = kd) (hR : rm.frames + 1 ≤ R.frames ∧ 8 + (maxL + 11) + rm.locals ≤ R.locals) (hn : As.length = n) (hst : st.length ≤ 8) (hd : decode cc pc = .ok (.invokevirtual index, 3)) (hf : cells + rm.cells ≤ R.cells ∧ slots + rm.slots ≤ R.slots) (hs : st0 = As.reverse ++ .inr b :: st)
    (kk : er_G K (cells + rm.cells) (slots + rm.slots) T' M' (pc + 3) L (r.toList ++ st)) : er_G K cells slots T M pc L st0 := by
  obtain ⟨p, e, s, m, args, below, meth, c, Q, rfl, hx, hb, hml, hown, hts, hKK, hXX, hbs⟩ := cx
  intro H locs ls z
  obtain ⟨⟨hc, hini, hlk, hy⟩, hi, ci, q, hcl, hkd, hsel⟩ := hm
  have hM := hM (er_okA z.2.2.1 hs)
  have he := er_at (X := X) z.1 (a := b) (by omega)
  rw [er_cellO (hk.trans hkd.1) hkd.2] at he
  have hstk : er_st X st0 = (er_st X As).reverse ++ .ref (er_ad X b) :: er_st X st := by
    rw [hs]
    simp [er_st, er_cv]
  have hpre : PreV s H q.1 (er_ad X b) (va_Pc (er_st X (.inr b :: As)) (er_Pw X T M)) (er_st X As) := ⟨er_blind X T M _, va_recv hKK.1 z.2.2.2.2.1 hcl he, fun U hU hW => ⟨rfl, z.1, by rw [hU]; exact z.2.2.2.1, by rw [hU]; exact z.2.2.2.2.1, hKK.warm hW, hXX.kept hbs z.2.2.2.2.2.1 hU hW.alike⟩⟩
  have hsum : 2 * (F0 m pc ls (er_st X st0)).monitorRoom + ((er_st X st).map fun v => v.category).sum ≤ 8 := lv_room (by rw [er_sum]; exact hst)
  have hokst : ∀ v ∈ st, er_ok v := fun v hv => z.2.2.1 v (by rw [hs]; exact List.mem_append_right _ (List.mem_cons_of_mem _ hv))
  have hlen : (er_st X As).length = n := by rw [← hn]; simp [er_st]
  rcases hlk with ⟨-, h⟩ | ⟨-, host, h⟩
  · exact er_run (va_runV (As := er_st X As) (rest := er_st X st) ⟨hx, hb, hml, hown, hts⟩ hM ⟨callB_of n hts (er_goodC hc) rfl rfl rfl (hts _ hini) (hts _ h) hy hR, hts _ hi, hts _ hsel⟩ hpre rfl hlen z.2.2.2.2.2.2.1 hstk hsum hd hf) z hokst kk
  · exact er_run (va_runVN (As := er_st X As) (rest := er_st X st) ⟨hx, hb, hml, hown, hts⟩ hM ⟨va_cnB n hts (er_goodC hc) rfl rfl rfl (hKK.2.1 _ h) (hts _ hini) hy hR, hts _ hi, hts _ hsel⟩ hpre rfl hlen z.2.2.2.2.2.2.1 hstk hsum hd hf) z hokst kk
theorem er_callI (cx : er_Cx K l X cc own nL R) {b : Int} (hM : (∀ v ∈ (Sum.inr b :: As : List er_V), er_ok v) → er_Ct l X y cd maxL none rm (.inr b :: As) T M r T' M') (hm : er_MI own index y cd maxL n nest) (hR : rm.frames + 1 ≤ R.frames ∧ 8 + (maxL + 11) + rm.locals ≤ R.locals) (hn : As.length = n) (hst : st.length ≤ 8) (hd : decode cc pc = .ok (.invokespecial index, 3)) (hf : cells + rm.cells ≤ R.cells ∧ slots + rm.slots ≤ R.slots) (hs : st0 = As.reverse ++ .inr b :: st)
    (kk : er_G K (cells + rm.cells) (slots + rm.slots) T' M' (pc + 3) L (r.toList ++ st)) : er_G K cells slots T M pc L st0 := by
  obtain ⟨p, e, s, m, args, below, meth, c, Q, rfl, hx, hb, hml, hown, hts, hKK, hXX, hbs⟩ := cx
  intro H locs ls z
  obtain ⟨⟨hc, hini, hlk, hy⟩, hy1, hi⟩ := hm
  have hM := hM (er_okA z.2.2.1 hs)
  have hstk : er_st X st0 = (er_st X As).reverse ++ .ref (er_ad X b) :: er_st X st := by
    rw [hs]
    simp [er_st, er_cv]
  have hpre : PreS s H (va_Pc (er_st X (.inr b :: As)) (er_Pw X T M)) (.ref (er_ad X b) :: er_st X As) := ⟨er_blind X T M _, fun U hU hW => ⟨rfl, z.1, by rw [hU]; exact z.2.2.2.1, by rw [hU]; exact z.2.2.2.2.1, hKK.warm hW, hXX.kept hbs z.2.2.2.2.2.1 hU hW.alike⟩⟩
  have hsum : 2 * (F0 m pc ls (er_st X st0)).monitorRoom + ((er_st X st).map fun v => v.category).sum ≤ 8 := lv_room (by rw [er_sum]; exact hst)
  have hokst : ∀ v ∈ st, er_ok v := fun v hv => z.2.2.1 v (by rw [hs]; exact List.mem_append_right _ (List.mem_cons_of_mem _ hv))
  have hlen : (er_st X As).length = n := by rw [← hn]; simp [er_st]
  rcases hlk with ⟨-, h⟩ | ⟨-, host, h⟩
  · exact er_run (va_runI (As := er_st X As) (rest := er_st X st) ⟨hx, hb, hml, hown, hts⟩ hM ⟨callB_of n hts (er_goodC hc) rfl rfl rfl (hts _ hini) (hts _ h) hy hR, hy1, hts _ hi⟩ hpre rfl hlen z.2.2.2.2.2.2.1 hstk hsum hd hf) z hokst kk
  · exact er_run (va_runIN (As := er_st X As) (rest := er_st X st) ⟨hx, hb, hml, hown, hts⟩ hM ⟨va_cnB n hts (er_goodC hc) rfl rfl rfl (hKK.2.1 _ h) (hts _ hini) hy hR, hy1, hts _ hi⟩ hpre rfl hlen z.2.2.2.2.2.2.1 hstk hsum hd hf) z hokst kk
theorem er_callS (cx : er_Cx K l X cc own nL R) (hM : (∀ v ∈ As, er_ok v) → er_Ct l X y cd maxL ret rm As T M r T' M') (hm : er_MS own index y cd maxL ret n nest) (hR : rm.frames + 1 ≤ R.frames ∧ 8 + (maxL + 11) + rm.locals ≤ R.locals) (hn : As.length = n) (hst : st.length ≤ 8) (hd : decode cc pc = .ok (.invokestatic index, 3)) (hf : cells + rm.cells ≤ R.cells ∧ slots + rm.slots ≤ R.slots) (hs : st0 = As.reverse ++ st)
    (kk : er_G K (cells + rm.cells) (slots + rm.slots) T' M' (pc + 3) L (r.toList ++ st)) : er_G K cells slots T M pc L st0 := by
  obtain ⟨p, e, s, m, args, below, meth, c, Q, rfl, hx, hb, hml, hown, hts, hKK, hXX, hbs⟩ := cx
  intro H locs ls z
  obtain ⟨⟨hc, hini, hlk, hy⟩, hi⟩ := hm
  have hM := hM (fun v h => z.2.2.1 v (by rw [hs]; exact List.mem_append_left _ (List.mem_reverse.mpr h)))
  have hstk : er_st X st0 = (er_st X As).reverse ++ er_st X st := by
    rw [hs]
    simp [er_st]
  have hpre : PreS s H (va_Pc (er_st X As) (er_Pw X T M)) (er_st X As) := ⟨er_blind X T M _, fun U hU hW => ⟨rfl, z.1, by rw [hU]; exact z.2.2.2.1, by rw [hU]; exact z.2.2.2.2.1, hKK.warm hW, hXX.kept hbs z.2.2.2.2.2.1 hU hW.alike⟩⟩
  have hsum : 2 * (F0 m pc ls (er_st X st0)).monitorRoom + ((er_st X st).map fun v => v.category).sum ≤ 8 := lv_room (by rw [er_sum]; exact hst)
  have hokst : ∀ v ∈ st, er_ok v := fun v hv => z.2.2.1 v (by rw [hs]; exact List.mem_append_right _ hv)
  have hlen : (er_st X As).length = n := by rw [← hn]; simp [er_st]
  rcases hlk with ⟨-, h⟩ | ⟨-, host, h⟩
  · exact er_run (va_runS (As := er_st X As) (rest := er_st X st) ⟨hx, hb, hml, hown, hts⟩ hM ⟨callB_of n hts (er_goodC hc) rfl rfl rfl (hts _ hini) (hts _ h) hy hR, hts _ hi⟩ hpre rfl hlen z.2.2.2.2.2.2.1 hstk hsum hd hf) z hokst kk
  · exact er_run (va_runSN (As := er_st X As) (rest := er_st X st) ⟨hx, hb, hml, hown, hts⟩ hM ⟨va_cnB n hts (er_goodC hc) rfl rfl rfl (hKK.2.1 _ h) (hts _ hini) hy hR, hts _ hi, trivial⟩ hpre rfl hlen z.2.2.2.2.2.2.1 hstk hsum hd hf) z hokst kk
theorem er_tin (cx : er_Cx K l X cc own nL R) {dflt lo hi off x : Int} {offs : Array Int} {len tgt : Nat} (hd : decode cc pc = .ok (.tableswitch dflt lo hi offs, len)) (h1 : ¬ x < lo) (h2 : ¬ hi < x) (ho : offs[(x - lo).toNat]? = some off) (ht : (pc : Int) + off = (tgt : Int)) (kk : er_G K cells slots T M tgt L st) : er_G K cells slots T M pc L (.inl x :: st) := by
  obtain ⟨p, e, s, m, args, below, meth, c, Q, rfl, hx, hb, hml, hown, hts, hKK, hXX, hbs⟩ := cx
  intro H locs ls z
  have hw := er_wI z.a1
  exact lv_tableIn hx hb hd (by rw [hw]; exact h1) (by rw [hw]; exact h2) (by rw [hw]; exact ho) ht (kk H locs ls z.p1)
theorem er_tout (cx : er_Cx K l X cc own nL R) {dflt lo hi x : Int} {offs : Array Int} {len tgt : Nat} (hd : decode cc pc = .ok (.tableswitch dflt lo hi offs, len)) (h : x < lo ∨ hi < x) (ht : (pc : Int) + dflt = (tgt : Int)) (kk : er_G K cells slots T M tgt L st) : er_G K cells slots T M pc L (.inl x :: st) := by
  obtain ⟨p, e, s, m, args, below, meth, c, Q, rfl, hx, hb, hml, hown, hts, hKK, hXX, hbs⟩ := cx
  intro H locs ls z
  have hw := er_wI z.a1
  exact lv_tableOut hx hb hd (by rw [hw]; exact h) ht (kk H locs ls z.p1)
end ERC
/-! what a body's text says, piece by piece -/
theorem er_ck {α : Type} {c : Prop} [Decidable c] {k : Option α} {r : α} (h : (if c then k else none) = some r) : c ∧ k = some r := by
  by_cases hc : c
  · rw [if_pos hc] at h; exact ⟨hc, h⟩
  · rw [if_neg hc] at h; cases h
theorem er_bd {α β : Type} {o : Option α} {k : α → Option β} {r : β} (h : o.bind k = some r) : ∃ x, o = some x ∧ k x = some r := Option.bind_eq_some_iff.mp h
def er_le {α β : Type} (x : α) (k : α → Option β) : Option β := k x
theorem er_lel {α β : Type} {x : α} {k : α → Option β} {r : β} (h : er_le x k = some r) : ∃ y, x = y ∧ k y = some r := ⟨x, rfl, h⟩
theorem er_ift {α : Type} {c : Prop} [Decidable c] {a b : Option α} {r : α} (h : (if c then a else b) = some r) (hc : c) : a = some r := by rw [if_pos hc] at h; exact h
theorem er_iff {α : Type} {c : Prop} [Decidable c] {a b : Option α} {r : α} (h : (if c then a else b) = some r) (hc : ¬ c) : b = some r := by rw [if_neg hc] at h; exact h
end
section
/-! facts of the tables, one a link; printed by wip/whole/gen/load.py -/
theorem cl_ER : er_Cl 0 "EchoedRounds" F_ER 1 t_ER := ⟨by decide, rfl, by decide +kernel, by decide +kernel, by decide +kernel, rfl, by decide +kernel⟩
theorem cl_Rules : er_Cl 1 "EchoedRounds$Rules" F_Rules 4 t_Rules := ⟨by decide, rfl, by decide +kernel, by decide +kernel, by decide +kernel, rfl, by decide +kernel⟩
theorem cl_Node : er_Cl 2 "EchoedRounds$Node" F_Node 13 t_Node := ⟨by decide, rfl, by decide +kernel, by decide +kernel, by decide +kernel, rfl, by decide +kernel⟩
theorem cl_Log : er_Cl 3 "EchoedRounds$Log" F_Log 2 t_Log := ⟨by decide, rfl, by decide +kernel, by decide +kernel, by decide +kernel, rfl, by decide +kernel⟩
theorem cl_Tally : er_Cl 4 "EchoedRounds$Tally" F_Tally 2 t_Tally := ⟨by decide, rfl, by decide +kernel, by decide +kernel, by decide +kernel, rfl, by decide +kernel⟩
theorem cl_Row : er_Cl 5 "EchoedRounds$Row" F_Row 4 t_Row := ⟨by decide, rfl, by decide +kernel, by decide +kernel, by decide +kernel, rfl, by decide +kernel⟩
theorem cl_Mo : er_Cl 6 "EchoedRoundsModel" F_Mo 18 t_Mo := ⟨by decide, rfl, by decide +kernel, by decide +kernel, by decide +kernel, rfl, by decide +kernel⟩
theorem wm_28 : Cond.methodLink "EchoedRounds$Rules" 3 Lib.objectInit ∈ er_T := er_inT 28 (by decide +kernel) (by decide +kernel)
theorem wm_15 : Cond.instanceMethod Lib.objectInit ∈ er_T := er_inT 15 (by decide +kernel) (by decide +kernel)
theorem wm_16 : Cond.code Lib.objectInit ⟨#[0xb1]⟩ 1 none ∈ er_T := er_inT 16 (by decide +kernel) (by decide +kernel)
theorem wm_66 : Cond.arrayClass .int ∈ er_T := er_inT 66 (by decide +kernel) (by decide +kernel)
theorem wm_57 : Cond.methodLink "EchoedRounds$Log" 3 Lib.objectInit ∈ er_T := er_inT 57 (by decide +kernel) (by decide +kernel)
theorem wm_72 : Cond.methodLink "EchoedRounds$Tally" 3 Lib.objectInit ∈ er_T := er_inT 72 (by decide +kernel) (by decide +kernel)
theorem wm_86 : Cond.methodLink "EchoedRounds$Row" 3 Lib.objectInit ∈ er_T := er_inT 86 (by decide +kernel) (by decide +kernel)
theorem wm_255 : Cond.methodLink "EchoedRounds$Rules" 62 Lib.Math.min.name ∈ er_T := er_inT 255 (by decide +kernel) (by decide +kernel)
theorem wm_18 : Cond.static Lib.Math.min.name ∈ er_T := er_inT 18 (by decide +kernel) (by decide +kernel)
theorem wm_2 : Cond.initialized "java/lang/Math" ∈ er_T := er_inT 2 (by decide +kernel) (by decide +kernel)
theorem wm_19 : Cond.code Lib.Math.min.name Lib.Math.min.code 2 (some .int) ∈ er_T := er_inT 19 (by decide +kernel) (by decide +kernel)
theorem wm_102 : Cond.arrayClass .boolean ∈ er_T := er_inT 102 (by decide +kernel) (by decide +kernel)
theorem wm_377 : Cond.methodLink "EchoedRoundsModel" 1 Lib.objectInit ∈ er_T := er_inT 377 (by decide +kernel) (by decide +kernel)
theorem wm_80 : Cond.classLink "EchoedRounds$Node" 36 "EchoedRounds$Row" ∈ er_T := er_inT 80 (by decide +kernel) (by decide +kernel)
theorem wm_82 : Cond.instantiable "EchoedRounds$Row" 4 ∈ er_T := er_inT 82 (by decide +kernel) (by decide +kernel)
theorem wm_7 : Cond.initialized "EchoedRounds$Row" ∈ er_T := er_inT 7 (by decide +kernel) (by decide +kernel)
theorem wm_52 : Cond.classLink "EchoedRounds$Node" 9 "EchoedRounds$Log" ∈ er_T := er_inT 52 (by decide +kernel) (by decide +kernel)
theorem wm_53 : Cond.instantiable "EchoedRounds$Log" 2 ∈ er_T := er_inT 53 (by decide +kernel) (by decide +kernel)
theorem wm_5 : Cond.initialized "EchoedRounds$Log" ∈ er_T := er_inT 5 (by decide +kernel) (by decide +kernel)
theorem wm_67 : Cond.classLink "EchoedRounds$Node" 18 "EchoedRounds$Tally" ∈ er_T := er_inT 67 (by decide +kernel) (by decide +kernel)
theorem wm_68 : Cond.instantiable "EchoedRounds$Tally" 2 ∈ er_T := er_inT 68 (by decide +kernel) (by decide +kernel)
theorem wm_6 : Cond.initialized "EchoedRounds$Tally" ∈ er_T := er_inT 6 (by decide +kernel) (by decide +kernel)
theorem wm_51 : Cond.methodLink "EchoedRounds$Node" 3 Lib.objectInit ∈ er_T := er_inT 51 (by decide +kernel) (by decide +kernel)
theorem wm_45 : Cond.classLink "EchoedRounds" 23 "EchoedRounds$Node" ∈ er_T := er_inT 45 (by decide +kernel) (by decide +kernel)
theorem wm_47 : Cond.instantiable "EchoedRounds$Node" 13 ∈ er_T := er_inT 47 (by decide +kernel) (by decide +kernel)
theorem wm_4 : Cond.initialized "EchoedRounds$Node" ∈ er_T := er_inT 4 (by decide +kernel) (by decide +kernel)
theorem wm_23 : Cond.classLink "EchoedRounds" 18 "EchoedRounds$Rules" ∈ er_T := er_inT 23 (by decide +kernel) (by decide +kernel)
theorem wm_24 : Cond.instantiable "EchoedRounds$Rules" 4 ∈ er_T := er_inT 24 (by decide +kernel) (by decide +kernel)
theorem wm_3 : Cond.initialized "EchoedRounds$Rules" ∈ er_T := er_inT 3 (by decide +kernel) (by decide +kernel)
theorem wm_20 : Cond.methodLink "EchoedRounds" 15 Lib.Math.max.name ∈ er_T := er_inT 20 (by decide +kernel) (by decide +kernel)
theorem wm_21 : Cond.static Lib.Math.max.name ∈ er_T := er_inT 21 (by decide +kernel) (by decide +kernel)
theorem wm_22 : Cond.code Lib.Math.max.name Lib.Math.max.code 2 (some .int) ∈ er_T := er_inT 22 (by decide +kernel) (by decide +kernel)
theorem wm_17 : Cond.methodLink "EchoedRounds" 9 Lib.Math.min.name ∈ er_T := er_inT 17 (by decide +kernel) (by decide +kernel)
theorem wm_14 : Cond.methodLink "EchoedRounds" 3 Lib.objectInit ∈ er_T := er_inT 14 (by decide +kernel) (by decide +kernel)
theorem wm_9 : Cond.classLink "EchoedRoundsLaw" 7 "EchoedRounds" ∈ er_T := er_inT 9 (by decide +kernel) (by decide +kernel)
theorem wm_10 : Cond.instantiable "EchoedRounds" 1 ∈ er_T := er_inT 10 (by decide +kernel) (by decide +kernel)
theorem wm_1 : Cond.initialized "EchoedRounds" ∈ er_T := er_inT 1 (by decide +kernel) (by decide +kernel)
theorem wm_372 : Cond.classLink "EchoedRoundsLaw" 18 "EchoedRoundsModel" ∈ er_T := er_inT 372 (by decide +kernel) (by decide +kernel)
theorem wm_373 : Cond.instantiable "EchoedRoundsModel" 18 ∈ er_T := er_inT 373 (by decide +kernel) (by decide +kernel)
theorem wm_8 : Cond.initialized "EchoedRoundsModel" ∈ er_T := er_inT 8 (by decide +kernel) (by decide +kernel)
theorem wm_29 : Cond.fieldLink "EchoedRounds$Rules" 9 "EchoedRounds$Rules" "count" "I" ∈ er_T := er_inT 29 (by decide +kernel) (by decide +kernel)
theorem wm_31 : Cond.fieldLink "EchoedRounds$Rules" 15 "EchoedRounds$Rules" "liars" "I" ∈ er_T := er_inT 31 (by decide +kernel) (by decide +kernel)
theorem wm_33 : Cond.fieldLink "EchoedRounds$Rules" 18 "EchoedRounds$Rules" "chosen" "I" ∈ er_T := er_inT 33 (by decide +kernel) (by decide +kernel)
theorem wm_34 : Cond.fieldLink "EchoedRounds$Rules" 21 "EchoedRounds$Rules" "echoesForReady" "I" ∈ er_T := er_inT 34 (by decide +kernel) (by decide +kernel)
theorem wm_58 : Cond.fieldLink "EchoedRounds$Log" 9 "EchoedRounds$Log" "codes" "[I" ∈ er_T := er_inT 58 (by decide +kernel) (by decide +kernel)
theorem wm_59 : Cond.fieldLink "EchoedRounds$Log" 15 "EchoedRounds$Log" "size" "I" ∈ er_T := er_inT 59 (by decide +kernel) (by decide +kernel)
theorem wm_73 : Cond.fieldLink "EchoedRounds$Tally" 9 "EchoedRounds$Tally" "senders" "[I" ∈ er_T := er_inT 73 (by decide +kernel) (by decide +kernel)
theorem wm_74 : Cond.fieldLink "EchoedRounds$Tally" 15 "EchoedRounds$Tally" "counts" "[I" ∈ er_T := er_inT 74 (by decide +kernel) (by decide +kernel)
theorem wm_87 : Cond.fieldLink "EchoedRounds$Row" 9 "EchoedRounds$Row" "speakers" "[I" ∈ er_T := er_inT 87 (by decide +kernel) (by decide +kernel)
theorem wm_88 : Cond.fieldLink "EchoedRounds$Row" 15 "EchoedRounds$Row" "said" "[I" ∈ er_T := er_inT 88 (by decide +kernel) (by decide +kernel)
theorem wm_89 : Cond.fieldLink "EchoedRounds$Row" 18 "EchoedRounds$Row" "counts" "[I" ∈ er_T := er_inT 89 (by decide +kernel) (by decide +kernel)
theorem wm_91 : Cond.fieldLink "EchoedRounds$Row" 21 "EchoedRounds$Row" "size" "I" ∈ er_T := er_inT 91 (by decide +kernel) (by decide +kernel)
theorem wm_153 : Cond.fieldLink "EchoedRounds" 25 "EchoedRounds" "nodes" "[LEchoedRounds$Node;" ∈ er_T := er_inT 153 (by decide +kernel) (by decide +kernel)
theorem wm_391 : Cond.fieldLink "EchoedRoundsModel" 44 "EchoedRoundsModel" "slots" "[I" ∈ er_T := er_inT 391 (by decide +kernel) (by decide +kernel)
theorem wm_393 : Cond.fieldLink "EchoedRoundsModel" 50 "EchoedRoundsModel" "decisions" "[I" ∈ er_T := er_inT 393 (by decide +kernel) (by decide +kernel)
theorem wm_378 : Cond.fieldLink "EchoedRoundsModel" 59 "EchoedRoundsModel" "nodes" "I" ∈ er_T := er_inT 378 (by decide +kernel) (by decide +kernel)
theorem wm_379 : Cond.fieldLink "EchoedRoundsModel" 63 "EchoedRoundsModel" "faults" "I" ∈ er_T := er_inT 379 (by decide +kernel) (by decide +kernel)
theorem wm_380 : Cond.fieldLink "EchoedRoundsModel" 7 "EchoedRoundsModel" "ill" "[Z" ∈ er_T := er_inT 380 (by decide +kernel) (by decide +kernel)
theorem wm_381 : Cond.fieldLink "EchoedRoundsModel" 13 "EchoedRoundsModel" "logs" "[I" ∈ er_T := er_inT 381 (by decide +kernel) (by decide +kernel)
theorem wm_382 : Cond.fieldLink "EchoedRoundsModel" 17 "EchoedRoundsModel" "sizes" "[I" ∈ er_T := er_inT 382 (by decide +kernel) (by decide +kernel)
theorem wm_383 : Cond.fieldLink "EchoedRoundsModel" 20 "EchoedRoundsModel" "got" "[I" ∈ er_T := er_inT 383 (by decide +kernel) (by decide +kernel)
theorem wm_384 : Cond.fieldLink "EchoedRoundsModel" 23 "EchoedRoundsModel" "heardSaying" "[Z" ∈ er_T := er_inT 384 (by decide +kernel) (by decide +kernel)
theorem wm_385 : Cond.fieldLink "EchoedRoundsModel" 26 "EchoedRoundsModel" "sentReady" "[Z" ∈ er_T := er_inT 385 (by decide +kernel) (by decide +kernel)
theorem wm_386 : Cond.fieldLink "EchoedRoundsModel" 29 "EchoedRoundsModel" "accepts" "[I" ∈ er_T := er_inT 386 (by decide +kernel) (by decide +kernel)
theorem wm_387 : Cond.fieldLink "EchoedRoundsModel" 32 "EchoedRoundsModel" "valid" "[Z" ∈ er_T := er_inT 387 (by decide +kernel) (by decide +kernel)
theorem wm_388 : Cond.fieldLink "EchoedRoundsModel" 35 "EchoedRoundsModel" "rows" "[I" ∈ er_T := er_inT 388 (by decide +kernel) (by decide +kernel)
theorem wm_389 : Cond.fieldLink "EchoedRoundsModel" 38 "EchoedRoundsModel" "rowSizes" "[I" ∈ er_T := er_inT 389 (by decide +kernel) (by decide +kernel)
theorem wm_390 : Cond.fieldLink "EchoedRoundsModel" 41 "EchoedRoundsModel" "heard" "[I" ∈ er_T := er_inT 390 (by decide +kernel) (by decide +kernel)
theorem wm_392 : Cond.fieldLink "EchoedRoundsModel" 47 "EchoedRoundsModel" "values" "[I" ∈ er_T := er_inT 392 (by decide +kernel) (by decide +kernel)
theorem wm_394 : Cond.fieldLink "EchoedRoundsModel" 53 "EchoedRoundsModel" "toss" "[I" ∈ er_T := er_inT 394 (by decide +kernel) (by decide +kernel)
theorem wm_395 : Cond.fieldLink "EchoedRoundsModel" 56 "EchoedRoundsModel" "chosen" "[I" ∈ er_T := er_inT 395 (by decide +kernel) (by decide +kernel)
theorem wm_114 : Cond.fieldLink "EchoedRounds$Node" 38 "EchoedRounds$Node" "rows" "[LEchoedRounds$Row;" ∈ er_T := er_inT 114 (by decide +kernel) (by decide +kernel)
theorem wm_112 : Cond.fieldLink "EchoedRounds$Node" 33 "EchoedRounds$Node" "taken" "[I" ∈ er_T := er_inT 112 (by decide +kernel) (by decide +kernel)
theorem wm_105 : Cond.fieldLink "EchoedRounds$Node" 12 "EchoedRounds$Node" "log" "LEchoedRounds$Log;" ∈ er_T := er_inT 105 (by decide +kernel) (by decide +kernel)
theorem wm_107 : Cond.fieldLink "EchoedRounds$Node" 21 "EchoedRounds$Node" "tally" "LEchoedRounds$Tally;" ∈ er_T := er_inT 107 (by decide +kernel) (by decide +kernel)
theorem wm_109 : Cond.fieldLink "EchoedRounds$Node" 25 "EchoedRounds$Node" "heardOf" "[I" ∈ er_T := er_inT 109 (by decide +kernel) (by decide +kernel)
theorem wm_111 : Cond.fieldLink "EchoedRounds$Node" 29 "EchoedRounds$Node" "readied" "[Z" ∈ er_T := er_inT 111 (by decide +kernel) (by decide +kernel)
theorem wm_116 : Cond.fieldLink "EchoedRounds$Node" 42 "EchoedRounds$Node" "wellBehaved" "Z" ∈ er_T := er_inT 116 (by decide +kernel) (by decide +kernel)
theorem wm_118 : Cond.fieldLink "EchoedRounds$Node" 46 "EchoedRounds$Node" "tossBits" "I" ∈ er_T := er_inT 118 (by decide +kernel) (by decide +kernel)
theorem wm_120 : Cond.fieldLink "EchoedRounds$Node" 50 "EchoedRounds$Node" "currentSlot" "I" ∈ er_T := er_inT 120 (by decide +kernel) (by decide +kernel)
theorem wm_122 : Cond.fieldLink "EchoedRounds$Node" 53 "EchoedRounds$Node" "currentValue" "I" ∈ er_T := er_inT 122 (by decide +kernel) (by decide +kernel)
theorem wm_124 : Cond.fieldLink "EchoedRounds$Node" 56 "EchoedRounds$Node" "decision" "I" ∈ er_T := er_inT 124 (by decide +kernel) (by decide +kernel)
theorem wm_103 : Cond.fieldLink "EchoedRounds$Node" 59 "EchoedRounds$Node" "self" "I" ∈ er_T := er_inT 103 (by decide +kernel) (by decide +kernel)
theorem wm_104 : Cond.fieldLink "EchoedRounds$Node" 62 "EchoedRounds$Node" "rules" "LEchoedRounds$Rules;" ∈ er_T := er_inT 104 (by decide +kernel) (by decide +kernel)
theorem wm_85 : Cond.code y_Row_init b_Row_init 1 (none) ∈ er_T := er_inT 85 (by decide +kernel) (by decide +kernel)
theorem wm_84 : Cond.instanceMethod y_Row_init ∈ er_T := er_inT 84 (by decide +kernel) (by decide +kernel)
theorem wm_71 : Cond.code y_Tally_init b_Tally_init 1 (none) ∈ er_T := er_inT 71 (by decide +kernel) (by decide +kernel)
theorem wm_70 : Cond.instanceMethod y_Tally_init ∈ er_T := er_inT 70 (by decide +kernel) (by decide +kernel)
theorem wm_56 : Cond.code y_Log_init b_Log_init 1 (none) ∈ er_T := er_inT 56 (by decide +kernel) (by decide +kernel)
theorem wm_55 : Cond.instanceMethod y_Log_init ∈ er_T := er_inT 55 (by decide +kernel) (by decide +kernel)
theorem wm_165 : Cond.methodLink "EchoedRounds" 57 y_ER_isNode ∈ er_T := er_inT 165 (by decide +kernel) (by decide +kernel)
theorem wm_168 : Cond.code y_ER_isNode b_ER_isNode 2 (some .boolean) ∈ er_T := er_inT 168 (by decide +kernel) (by decide +kernel)
theorem wm_167 : Cond.instanceMethod y_ER_isNode ∈ er_T := er_inT 167 (by decide +kernel) (by decide +kernel)
theorem wm_190 : Cond.code y_Log_append b_Log_append 2 (none) ∈ er_T := er_inT 190 (by decide +kernel) (by decide +kernel)
theorem wm_189 : Cond.instanceMethod y_Log_append ∈ er_T := er_inT 189 (by decide +kernel) (by decide +kernel)
theorem wm_186 : Cond.code y_ER_codeOf b_ER_codeOf 4 (some .int) ∈ er_T := er_inT 186 (by decide +kernel) (by decide +kernel)
theorem wm_185 : Cond.static y_ER_codeOf ∈ er_T := er_inT 185 (by decide +kernel) (by decide +kernel)
theorem wm_209 : Cond.code y_ER_cellOf b_ER_cellOf 2 (some .int) ∈ er_T := er_inT 209 (by decide +kernel) (by decide +kernel)
theorem wm_208 : Cond.static y_ER_cellOf ∈ er_T := er_inT 208 (by decide +kernel) (by decide +kernel)
theorem wm_251 : Cond.methodLink "EchoedRounds$Rules" 33 y_Rules_mostChosen ∈ er_T := er_inT 251 (by decide +kernel) (by decide +kernel)
theorem wm_254 : Cond.code y_Rules_mostChosen b_Rules_mostChosen 3 (some .int) ∈ er_T := er_inT 254 (by decide +kernel) (by decide +kernel)
theorem wm_253 : Cond.instanceMethod y_Rules_mostChosen ∈ er_T := er_inT 253 (by decide +kernel) (by decide +kernel)
theorem wm_300 : Cond.code y_Row_countInFirst b_Row_countInFirst 5 (some .int) ∈ er_T := er_inT 300 (by decide +kernel) (by decide +kernel)
theorem wm_299 : Cond.instanceMethod y_Row_countInFirst ∈ er_T := er_inT 299 (by decide +kernel) (by decide +kernel)
theorem wm_256 : Cond.methodLink "EchoedRounds$Rules" 37 y_Rules_isMajority ∈ er_T := er_inT 256 (by decide +kernel) (by decide +kernel)
theorem wm_259 : Cond.code y_Rules_isMajority b_Rules_isMajority 2 (some .boolean) ∈ er_T := er_inT 259 (by decide +kernel) (by decide +kernel)
theorem wm_258 : Cond.instanceMethod y_Rules_isMajority ∈ er_T := er_inT 258 (by decide +kernel) (by decide +kernel)
theorem wm_202 : Cond.code y_Log_codeAt b_Log_codeAt 2 (some .int) ∈ er_T := er_inT 202 (by decide +kernel) (by decide +kernel)
theorem wm_201 : Cond.instanceMethod y_Log_codeAt ∈ er_T := er_inT 201 (by decide +kernel) (by decide +kernel)
theorem wm_221 : Cond.code y_Tally_count b_Tally_count 4 (some .int) ∈ er_T := er_inT 221 (by decide +kernel) (by decide +kernel)
theorem wm_220 : Cond.instanceMethod y_Tally_count ∈ er_T := er_inT 220 (by decide +kernel) (by decide +kernel)
theorem wm_343 : Cond.methodLink "EchoedRounds" 96 y_ER_cellOf ∈ er_T := er_inT 343 (by decide +kernel) (by decide +kernel)
theorem wm_323 : Cond.methodLink "EchoedRounds" 68 y_ER_isSlot ∈ er_T := er_inT 323 (by decide +kernel) (by decide +kernel)
theorem wm_287 : Cond.code y_ER_isSlot b_ER_isSlot 1 (some .boolean) ∈ er_T := er_inT 287 (by decide +kernel) (by decide +kernel)
theorem wm_286 : Cond.static y_ER_isSlot ∈ er_T := er_inT 286 (by decide +kernel) (by decide +kernel)
theorem wm_356 : Cond.code y_Row_speakerAt b_Row_speakerAt 2 (some .int) ∈ er_T := er_inT 356 (by decide +kernel) (by decide +kernel)
theorem wm_355 : Cond.instanceMethod y_Row_speakerAt ∈ er_T := er_inT 355 (by decide +kernel) (by decide +kernel)
theorem wm_441 : Cond.methodLink "EchoedRoundsModel" 66 y_Mo_isNode ∈ er_T := er_inT 441 (by decide +kernel) (by decide +kernel)
theorem wm_444 : Cond.code y_Mo_isNode b_Mo_isNode 2 (some .boolean) ∈ er_T := er_inT 444 (by decide +kernel) (by decide +kernel)
theorem wm_443 : Cond.instanceMethod y_Mo_isNode ∈ er_T := er_inT 443 (by decide +kernel) (by decide +kernel)
theorem wm_457 : Cond.methodLink "EchoedRoundsModel" 70 y_Mo_at ∈ er_T := er_inT 457 (by decide +kernel) (by decide +kernel)
theorem wm_459 : Cond.code y_Mo_at b_Mo_at 3 (some .int) ∈ er_T := er_inT 459 (by decide +kernel) (by decide +kernel)
theorem wm_458 : Cond.static y_Mo_at ∈ er_T := er_inT 458 (by decide +kernel) (by decide +kernel)
theorem wm_500 : Cond.methodLink "EchoedRoundsModel" 97 y_Mo_firmValue ∈ er_T := er_inT 500 (by decide +kernel) (by decide +kernel)
theorem wm_503 : Cond.code y_Mo_firmValue b_Mo_firmValue 2 (some .int) ∈ er_T := er_inT 503 (by decide +kernel) (by decide +kernel)
theorem wm_502 : Cond.instanceMethod y_Mo_firmValue ∈ er_T := er_inT 502 (by decide +kernel) (by decide +kernel)
theorem wm_472 : Cond.methodLink "EchoedRoundsModel" 78 y_Mo_count ∈ er_T := er_inT 472 (by decide +kernel) (by decide +kernel)
theorem wm_475 : Cond.code y_Mo_count b_Mo_count 8 (some .int) ∈ er_T := er_inT 475 (by decide +kernel) (by decide +kernel)
theorem wm_474 : Cond.instanceMethod y_Mo_count ∈ er_T := er_inT 474 (by decide +kernel) (by decide +kernel)
theorem wm_528 : Cond.methodLink "EchoedRoundsModel" 122 y_Mo_isSlot ∈ er_T := er_inT 528 (by decide +kernel) (by decide +kernel)
theorem wm_530 : Cond.code y_Mo_isSlot b_Mo_isSlot 1 (some .boolean) ∈ er_T := er_inT 530 (by decide +kernel) (by decide +kernel)
theorem wm_529 : Cond.static y_Mo_isSlot ∈ er_T := er_inT 529 (by decide +kernel) (by decide +kernel)
theorem wm_50 : Cond.code y_Node_init b_Node_init 4 (none) ∈ er_T := er_inT 50 (by decide +kernel) (by decide +kernel)
theorem wm_49 : Cond.instanceMethod y_Node_init ∈ er_T := er_inT 49 (by decide +kernel) (by decide +kernel)
theorem wm_27 : Cond.code y_Rules_init b_Rules_init 2 (none) ∈ er_T := er_inT 27 (by decide +kernel) (by decide +kernel)
theorem wm_26 : Cond.instanceMethod y_Rules_init ∈ er_T := er_inT 26 (by decide +kernel) (by decide +kernel)
theorem wm_161 : Cond.methodLink "EchoedRounds" 32 y_ER_isWellBehaved ∈ er_T := er_inT 161 (by decide +kernel) (by decide +kernel)
theorem wm_164 : Cond.code y_ER_isWellBehaved b_ER_isWellBehaved 2 (some .boolean) ∈ er_T := er_inT 164 (by decide +kernel) (by decide +kernel)
theorem wm_163 : Cond.instanceMethod y_ER_isWellBehaved ∈ er_T := er_inT 163 (by decide +kernel) (by decide +kernel)
theorem wm_222 : Cond.methodLink "EchoedRounds$Node" 107 y_Node_sendReadyOnce ∈ er_T := er_inT 222 (by decide +kernel) (by decide +kernel)
theorem wm_225 : Cond.code y_Node_sendReadyOnce b_Node_sendReadyOnce 5 (none) ∈ er_T := er_inT 225 (by decide +kernel) (by decide +kernel)
theorem wm_224 : Cond.instanceMethod y_Node_sendReadyOnce ∈ er_T := er_inT 224 (by decide +kernel) (by decide +kernel)
theorem wm_273 : Cond.methodLink "EchoedRounds$Rules" 55 y_Rules_canNeedToss ∈ er_T := er_inT 273 (by decide +kernel) (by decide +kernel)
theorem wm_276 : Cond.code y_Rules_canNeedToss b_Rules_canNeedToss 4 (some .boolean) ∈ er_T := er_inT 276 (by decide +kernel) (by decide +kernel)
theorem wm_275 : Cond.instanceMethod y_Rules_canNeedToss ∈ er_T := er_inT 275 (by decide +kernel) (by decide +kernel)
theorem wm_269 : Cond.methodLink "EchoedRounds$Rules" 51 y_Rules_canPrevail ∈ er_T := er_inT 269 (by decide +kernel) (by decide +kernel)
theorem wm_272 : Cond.code y_Rules_canPrevail b_Rules_canPrevail 4 (some .boolean) ∈ er_T := er_inT 272 (by decide +kernel) (by decide +kernel)
theorem wm_271 : Cond.instanceMethod y_Rules_canPrevail ∈ er_T := er_inT 271 (by decide +kernel) (by decide +kernel)
theorem wm_179 : Cond.code y_ER_isPlain b_ER_isPlain 1 (some .boolean) ∈ er_T := er_inT 179 (by decide +kernel) (by decide +kernel)
theorem wm_178 : Cond.static y_ER_isPlain ∈ er_T := er_inT 178 (by decide +kernel) (by decide +kernel)
theorem wm_264 : Cond.methodLink "EchoedRounds$Rules" 45 y_Rules_canStayDivided ∈ er_T := er_inT 264 (by decide +kernel) (by decide +kernel)
theorem wm_267 : Cond.code y_Rules_canStayDivided b_Rules_canStayDivided 4 (some .boolean) ∈ er_T := er_inT 267 (by decide +kernel) (by decide +kernel)
theorem wm_266 : Cond.instanceMethod y_Rules_canStayDivided ∈ er_T := er_inT 266 (by decide +kernel) (by decide +kernel)
theorem wm_263 : Cond.code y_Row_holdsWith b_Row_holdsWith 4 (some .boolean) ∈ er_T := er_inT 263 (by decide +kernel) (by decide +kernel)
theorem wm_262 : Cond.instanceMethod y_Row_holdsWith ∈ er_T := er_inT 262 (by decide +kernel) (by decide +kernel)
theorem wm_247 : Cond.methodLink "EchoedRounds$Rules" 29 y_Rules_isFull ∈ er_T := er_inT 247 (by decide +kernel) (by decide +kernel)
theorem wm_250 : Cond.code y_Rules_isFull b_Rules_isFull 2 (some .boolean) ∈ er_T := er_inT 250 (by decide +kernel) (by decide +kernel)
theorem wm_249 : Cond.instanceMethod y_Rules_isFull ∈ er_T := er_inT 249 (by decide +kernel) (by decide +kernel)
theorem wm_312 : Cond.code y_Rules_heldFirm b_Rules_heldFirm 4 (some .int) ∈ er_T := er_inT 312 (by decide +kernel) (by decide +kernel)
theorem wm_311 : Cond.instanceMethod y_Rules_heldFirm ∈ er_T := er_inT 311 (by decide +kernel) (by decide +kernel)
theorem wm_437 : Cond.methodLink "EchoedRoundsModel" 115 y_Mo_well ∈ er_T := er_inT 437 (by decide +kernel) (by decide +kernel)
theorem wm_440 : Cond.code y_Mo_well b_Mo_well 2 (some .boolean) ∈ er_T := er_inT 440 (by decide +kernel) (by decide +kernel)
theorem wm_439 : Cond.instanceMethod y_Mo_well ∈ er_T := er_inT 439 (by decide +kernel) (by decide +kernel)
theorem wm_453 : Cond.methodLink "EchoedRoundsModel" 74 y_Mo_send ∈ er_T := er_inT 453 (by decide +kernel) (by decide +kernel)
theorem wm_456 : Cond.code y_Mo_send b_Mo_send 6 (none) ∈ er_T := er_inT 456 (by decide +kernel) (by decide +kernel)
theorem wm_455 : Cond.instanceMethod y_Mo_send ∈ er_T := er_inT 455 (by decide +kernel) (by decide +kernel)
theorem wm_488 : Cond.methodLink "EchoedRoundsModel" 86 y_Mo_setDoes ∈ er_T := er_inT 488 (by decide +kernel) (by decide +kernel)
theorem wm_491 : Cond.code y_Mo_setDoes b_Mo_setDoes 8 (some .boolean) ∈ er_T := er_inT 491 (by decide +kernel) (by decide +kernel)
theorem wm_490 : Cond.instanceMethod y_Mo_setDoes ∈ er_T := er_inT 490 (by decide +kernel) (by decide +kernel)
theorem wm_496 : Cond.methodLink "EchoedRoundsModel" 101 y_Mo_afterFirm ∈ er_T := er_inT 496 (by decide +kernel) (by decide +kernel)
theorem wm_499 : Cond.code y_Mo_afterFirm b_Mo_afterFirm 5 (some .int) ∈ er_T := er_inT 499 (by decide +kernel) (by decide +kernel)
theorem wm_498 : Cond.instanceMethod y_Mo_afterFirm ∈ er_T := er_inT 498 (by decide +kernel) (by decide +kernel)
theorem wm_226 : Cond.methodLink "EchoedRounds$Node" 95 y_Node_hearReady ∈ er_T := er_inT 226 (by decide +kernel) (by decide +kernel)
theorem wm_229 : Cond.code y_Node_hearReady b_Node_hearReady 6 (none) ∈ er_T := er_inT 229 (by decide +kernel) (by decide +kernel)
theorem wm_228 : Cond.instanceMethod y_Node_hearReady ∈ er_T := er_inT 228 (by decide +kernel) (by decide +kernel)
theorem wm_214 : Cond.methodLink "EchoedRounds$Node" 91 y_Node_hearEcho ∈ er_T := er_inT 214 (by decide +kernel) (by decide +kernel)
theorem wm_217 : Cond.code y_Node_hearEcho b_Node_hearEcho 4 (none) ∈ er_T := er_inT 217 (by decide +kernel) (by decide +kernel)
theorem wm_216 : Cond.instanceMethod y_Node_hearEcho ∈ er_T := er_inT 216 (by decide +kernel) (by decide +kernel)
theorem wm_213 : Cond.code y_Tally_countIn b_Tally_countIn 6 (some .boolean) ∈ er_T := er_inT 213 (by decide +kernel) (by decide +kernel)
theorem wm_212 : Cond.instanceMethod y_Tally_countIn ∈ er_T := er_inT 212 (by decide +kernel) (by decide +kernel)
theorem wm_246 : Cond.code y_Rules_follows b_Rules_follows 6 (some .boolean) ∈ er_T := er_inT 246 (by decide +kernel) (by decide +kernel)
theorem wm_245 : Cond.instanceMethod y_Rules_follows ∈ er_T := er_inT 245 (by decide +kernel) (by decide +kernel)
theorem wm_241 : Cond.code y_Row_holds b_Row_holds 3 (some .boolean) ∈ er_T := er_inT 241 (by decide +kernel) (by decide +kernel)
theorem wm_240 : Cond.instanceMethod y_Row_holds ∈ er_T := er_inT 240 (by decide +kernel) (by decide +kernel)
theorem wm_305 : Cond.methodLink "EchoedRounds$Node" 164 y_Node_endRound ∈ er_T := er_inT 305 (by decide +kernel) (by decide +kernel)
theorem wm_308 : Cond.code y_Node_endRound b_Node_endRound 5 (some .int) ∈ er_T := er_inT 308 (by decide +kernel) (by decide +kernel)
theorem wm_307 : Cond.instanceMethod y_Node_endRound ∈ er_T := er_inT 307 (by decide +kernel) (by decide +kernel)
theorem wm_304 : Cond.code y_Rules_firmOr b_Rules_firmOr 4 (some .int) ∈ er_T := er_inT 304 (by decide +kernel) (by decide +kernel)
theorem wm_303 : Cond.instanceMethod y_Rules_firmOr ∈ er_T := er_inT 303 (by decide +kernel) (by decide +kernel)
theorem wm_296 : Cond.code y_Rules_prevailing b_Rules_prevailing 2 (some .int) ∈ er_T := er_inT 296 (by decide +kernel) (by decide +kernel)
theorem wm_295 : Cond.instanceMethod y_Rules_prevailing ∈ er_T := er_inT 295 (by decide +kernel) (by decide +kernel)
theorem wm_468 : Cond.methodLink "EchoedRoundsModel" 82 y_Mo_receive ∈ er_T := er_inT 468 (by decide +kernel) (by decide +kernel)
theorem wm_471 : Cond.code y_Mo_receive b_Mo_receive 11 (some .boolean) ∈ er_T := er_inT 471 (by decide +kernel) (by decide +kernel)
theorem wm_470 : Cond.instanceMethod y_Mo_receive ∈ er_T := er_inT 470 (by decide +kernel) (by decide +kernel)
theorem wm_484 : Cond.methodLink "EchoedRoundsModel" 90 y_Mo_some ∈ er_T := er_inT 484 (by decide +kernel) (by decide +kernel)
theorem wm_487 : Cond.code y_Mo_some b_Mo_some 6 (some .boolean) ∈ er_T := er_inT 487 (by decide +kernel) (by decide +kernel)
theorem wm_486 : Cond.instanceMethod y_Mo_some ∈ er_T := er_inT 486 (by decide +kernel) (by decide +kernel)
theorem wm_203 : Cond.methodLink "EchoedRounds$Node" 79 y_Node_hear ∈ er_T := er_inT 203 (by decide +kernel) (by decide +kernel)
theorem wm_206 : Cond.code y_Node_hear b_Node_hear 7 (some .boolean) ∈ er_T := er_inT 206 (by decide +kernel) (by decide +kernel)
theorem wm_205 : Cond.instanceMethod y_Node_hear ∈ er_T := er_inT 205 (by decide +kernel) (by decide +kernel)
theorem wm_280 : Cond.code y_Row_append b_Row_append 3 (none) ∈ er_T := er_inT 280 (by decide +kernel) (by decide +kernel)
theorem wm_279 : Cond.instanceMethod y_Row_append ∈ er_T := er_inT 279 (by decide +kernel) (by decide +kernel)
theorem wm_234 : Cond.methodLink "EchoedRounds$Node" 126 y_Node_canBecomeValid ∈ er_T := er_inT 234 (by decide +kernel) (by decide +kernel)
theorem wm_237 : Cond.code y_Node_canBecomeValid b_Node_canBecomeValid 4 (some .boolean) ∈ er_T := er_inT 237 (by decide +kernel) (by decide +kernel)
theorem wm_236 : Cond.instanceMethod y_Node_canBecomeValid ∈ er_T := er_inT 236 (by decide +kernel) (by decide +kernel)
theorem wm_313 : Cond.methodLink "EchoedRounds$Node" 153 y_Node_enter ∈ er_T := er_inT 313 (by decide +kernel) (by decide +kernel)
theorem wm_183 : Cond.code y_Node_enter b_Node_enter 3 (none) ∈ er_T := er_inT 183 (by decide +kernel) (by decide +kernel)
theorem wm_182 : Cond.instanceMethod y_Node_enter ∈ er_T := er_inT 182 (by decide +kernel) (by decide +kernel)
theorem wm_289 : Cond.methodLink "EchoedRounds$Node" 150 y_Node_valueAfter ∈ er_T := er_inT 289 (by decide +kernel) (by decide +kernel)
theorem wm_292 : Cond.code y_Node_valueAfter b_Node_valueAfter 4 (some .int) ∈ er_T := er_inT 292 (by decide +kernel) (by decide +kernel)
theorem wm_291 : Cond.instanceMethod y_Node_valueAfter ∈ er_T := er_inT 291 (by decide +kernel) (by decide +kernel)
theorem wm_480 : Cond.methodLink "EchoedRoundsModel" 94 y_Mo_can ∈ er_T := er_inT 480 (by decide +kernel) (by decide +kernel)
theorem wm_483 : Cond.code y_Mo_can b_Mo_can 6 (some .boolean) ∈ er_T := er_inT 483 (by decide +kernel) (by decide +kernel)
theorem wm_482 : Cond.instanceMethod y_Mo_can ∈ er_T := er_inT 482 (by decide +kernel) (by decide +kernel)
theorem wm_281 : Cond.methodLink "EchoedRounds$Node" 121 y_Node_goOn ∈ er_T := er_inT 281 (by decide +kernel) (by decide +kernel)
theorem wm_284 : Cond.code y_Node_goOn b_Node_goOn 1 (some .boolean) ∈ er_T := er_inT 284 (by decide +kernel) (by decide +kernel)
theorem wm_283 : Cond.instanceMethod y_Node_goOn ∈ er_T := er_inT 283 (by decide +kernel) (by decide +kernel)
theorem wm_230 : Cond.methodLink "EchoedRounds$Node" 117 y_Node_makeOneValid ∈ er_T := er_inT 230 (by decide +kernel) (by decide +kernel)
theorem wm_233 : Cond.code y_Node_makeOneValid b_Node_makeOneValid 3 (some .boolean) ∈ er_T := er_inT 233 (by decide +kernel) (by decide +kernel)
theorem wm_232 : Cond.instanceMethod y_Node_makeOneValid ∈ er_T := er_inT 232 (by decide +kernel) (by decide +kernel)
theorem wm_195 : Cond.methodLink "EchoedRounds$Node" 113 y_Node_hearNextOf ∈ er_T := er_inT 195 (by decide +kernel) (by decide +kernel)
theorem wm_198 : Cond.code y_Node_hearNextOf b_Node_hearNextOf 4 (some .boolean) ∈ er_T := er_inT 198 (by decide +kernel) (by decide +kernel)
theorem wm_197 : Cond.instanceMethod y_Node_hearNextOf ∈ er_T := er_inT 197 (by decide +kernel) (by decide +kernel)
theorem wm_492 : Cond.methodLink "EchoedRoundsModel" 112 y_Mo_goOn ∈ er_T := er_inT 492 (by decide +kernel) (by decide +kernel)
theorem wm_495 : Cond.code y_Mo_goOn b_Mo_goOn 6 (some .boolean) ∈ er_T := er_inT 495 (by decide +kernel) (by decide +kernel)
theorem wm_494 : Cond.instanceMethod y_Mo_goOn ∈ er_T := er_inT 494 (by decide +kernel) (by decide +kernel)
theorem wm_476 : Cond.methodLink "EchoedRoundsModel" 109 y_Mo_validate ∈ er_T := er_inT 476 (by decide +kernel) (by decide +kernel)
theorem wm_479 : Cond.code y_Mo_validate b_Mo_validate 4 (some .boolean) ∈ er_T := er_inT 479 (by decide +kernel) (by decide +kernel)
theorem wm_478 : Cond.instanceMethod y_Mo_validate ∈ er_T := er_inT 478 (by decide +kernel) (by decide +kernel)
theorem wm_464 : Cond.methodLink "EchoedRoundsModel" 105 y_Mo_receiveFromLog ∈ er_T := er_inT 464 (by decide +kernel) (by decide +kernel)
theorem wm_467 : Cond.code y_Mo_receiveFromLog b_Mo_receiveFromLog 4 (none) ∈ er_T := er_inT 467 (by decide +kernel) (by decide +kernel)
theorem wm_466 : Cond.instanceMethod y_Mo_receiveFromLog ∈ er_T := er_inT 466 (by decide +kernel) (by decide +kernel)
theorem wm_194 : Cond.code y_Node_settle b_Node_settle 2 (none) ∈ er_T := er_inT 194 (by decide +kernel) (by decide +kernel)
theorem wm_193 : Cond.instanceMethod y_Node_settle ∈ er_T := er_inT 193 (by decide +kernel) (by decide +kernel)
theorem wm_177 : Cond.methodLink "EchoedRounds" 47 y_ER_isPlain ∈ er_T := er_inT 177 (by decide +kernel) (by decide +kernel)
theorem wm_324 : Cond.methodLink "EchoedRounds" 71 y_ER_codeOf ∈ er_T := er_inT 324 (by decide +kernel) (by decide +kernel)
theorem wm_460 : Cond.methodLink "EchoedRoundsModel" 118 y_Mo_settle ∈ er_T := er_inT 460 (by decide +kernel) (by decide +kernel)
theorem wm_463 : Cond.code y_Mo_settle b_Mo_settle 4 (none) ∈ er_T := er_inT 463 (by decide +kernel) (by decide +kernel)
theorem wm_462 : Cond.instanceMethod y_Mo_settle ∈ er_T := er_inT 462 (by decide +kernel) (by decide +kernel)
theorem wm_524 : Cond.methodLink "EchoedRoundsLaw" 63 y_Mo_votes ∈ er_T := er_inT 524 (by decide +kernel) (by decide +kernel)
theorem wm_527 : Cond.code y_Mo_votes b_Mo_votes 6 (some .int) ∈ er_T := er_inT 527 (by decide +kernel) (by decide +kernel)
theorem wm_525 : Cond.instanceMethod y_Mo_votes ∈ er_T := er_inT 525 (by decide +kernel) (by decide +kernel)
theorem wm_526 : Cond.selects "EchoedRoundsModel" y_Mo_votes y_Mo_votes ∈ er_T := er_inT 526 (by decide +kernel) (by decide +kernel)
theorem wm_339 : Cond.methodLink "EchoedRoundsLaw" 59 y_ER_votes ∈ er_T := er_inT 339 (by decide +kernel) (by decide +kernel)
theorem wm_342 : Cond.code y_ER_votes b_ER_votes 6 (some .int) ∈ er_T := er_inT 342 (by decide +kernel) (by decide +kernel)
theorem wm_340 : Cond.instanceMethod y_ER_votes ∈ er_T := er_inT 340 (by decide +kernel) (by decide +kernel)
theorem wm_341 : Cond.selects "EchoedRounds" y_ER_votes y_ER_votes ∈ er_T := er_inT 341 (by decide +kernel) (by decide +kernel)
theorem wm_433 : Cond.methodLink "EchoedRoundsLaw" 25 y_Mo_corrupt ∈ er_T := er_inT 433 (by decide +kernel) (by decide +kernel)
theorem wm_436 : Cond.code y_Mo_corrupt b_Mo_corrupt 2 (some .boolean) ∈ er_T := er_inT 436 (by decide +kernel) (by decide +kernel)
theorem wm_434 : Cond.instanceMethod y_Mo_corrupt ∈ er_T := er_inT 434 (by decide +kernel) (by decide +kernel)
theorem wm_435 : Cond.selects "EchoedRoundsModel" y_Mo_corrupt y_Mo_corrupt ∈ er_T := er_inT 435 (by decide +kernel) (by decide +kernel)
theorem wm_157 : Cond.methodLink "EchoedRoundsLaw" 21 y_ER_corrupt ∈ er_T := er_inT 157 (by decide +kernel) (by decide +kernel)
theorem wm_160 : Cond.code y_ER_corrupt b_ER_corrupt 2 (some .boolean) ∈ er_T := er_inT 160 (by decide +kernel) (by decide +kernel)
theorem wm_158 : Cond.instanceMethod y_ER_corrupt ∈ er_T := er_inT 158 (by decide +kernel) (by decide +kernel)
theorem wm_159 : Cond.selects "EchoedRounds" y_ER_corrupt y_ER_corrupt ∈ er_T := er_inT 159 (by decide +kernel) (by decide +kernel)
theorem wm_445 : Cond.methodLink "EchoedRoundsLaw" 30 y_Mo_tosses ∈ er_T := er_inT 445 (by decide +kernel) (by decide +kernel)
theorem wm_448 : Cond.code y_Mo_tosses b_Mo_tosses 3 (some .boolean) ∈ er_T := er_inT 448 (by decide +kernel) (by decide +kernel)
theorem wm_446 : Cond.instanceMethod y_Mo_tosses ∈ er_T := er_inT 446 (by decide +kernel) (by decide +kernel)
theorem wm_447 : Cond.selects "EchoedRoundsModel" y_Mo_tosses y_Mo_tosses ∈ er_T := er_inT 447 (by decide +kernel) (by decide +kernel)
theorem wm_169 : Cond.methodLink "EchoedRoundsLaw" 26 y_ER_tosses ∈ er_T := er_inT 169 (by decide +kernel) (by decide +kernel)
theorem wm_172 : Cond.code y_ER_tosses b_ER_tosses 3 (some .boolean) ∈ er_T := er_inT 172 (by decide +kernel) (by decide +kernel)
theorem wm_170 : Cond.instanceMethod y_ER_tosses ∈ er_T := er_inT 170 (by decide +kernel) (by decide +kernel)
theorem wm_171 : Cond.selects "EchoedRounds" y_ER_tosses y_ER_tosses ∈ er_T := er_inT 171 (by decide +kernel) (by decide +kernel)
theorem wm_449 : Cond.methodLink "EchoedRoundsLaw" 34 y_Mo_start ∈ er_T := er_inT 449 (by decide +kernel) (by decide +kernel)
theorem wm_452 : Cond.code y_Mo_start b_Mo_start 3 (some .boolean) ∈ er_T := er_inT 452 (by decide +kernel) (by decide +kernel)
theorem wm_450 : Cond.instanceMethod y_Mo_start ∈ er_T := er_inT 450 (by decide +kernel) (by decide +kernel)
theorem wm_451 : Cond.selects "EchoedRoundsModel" y_Mo_start y_Mo_start ∈ er_T := er_inT 451 (by decide +kernel) (by decide +kernel)
theorem wm_173 : Cond.methodLink "EchoedRoundsLaw" 31 y_ER_start ∈ er_T := er_inT 173 (by decide +kernel) (by decide +kernel)
theorem wm_176 : Cond.code y_ER_start b_ER_start 3 (some .boolean) ∈ er_T := er_inT 176 (by decide +kernel) (by decide +kernel)
theorem wm_174 : Cond.instanceMethod y_ER_start ∈ er_T := er_inT 174 (by decide +kernel) (by decide +kernel)
theorem wm_175 : Cond.selects "EchoedRounds" y_ER_start y_ER_start ∈ er_T := er_inT 175 (by decide +kernel) (by decide +kernel)
theorem wm_504 : Cond.methodLink "EchoedRoundsLaw" 39 y_Mo_pass ∈ er_T := er_inT 504 (by decide +kernel) (by decide +kernel)
theorem wm_507 : Cond.code y_Mo_pass b_Mo_pass 5 (some .int) ∈ er_T := er_inT 507 (by decide +kernel) (by decide +kernel)
theorem wm_505 : Cond.instanceMethod y_Mo_pass ∈ er_T := er_inT 505 (by decide +kernel) (by decide +kernel)
theorem wm_506 : Cond.selects "EchoedRoundsModel" y_Mo_pass y_Mo_pass ∈ er_T := er_inT 506 (by decide +kernel) (by decide +kernel)
theorem wm_314 : Cond.methodLink "EchoedRoundsLaw" 35 y_ER_pass ∈ er_T := er_inT 314 (by decide +kernel) (by decide +kernel)
theorem wm_317 : Cond.code y_ER_pass b_ER_pass 5 (some .int) ∈ er_T := er_inT 317 (by decide +kernel) (by decide +kernel)
theorem wm_315 : Cond.instanceMethod y_ER_pass ∈ er_T := er_inT 315 (by decide +kernel) (by decide +kernel)
theorem wm_316 : Cond.selects "EchoedRounds" y_ER_pass y_ER_pass ∈ er_T := er_inT 316 (by decide +kernel) (by decide +kernel)
theorem wm_508 : Cond.methodLink "EchoedRoundsLaw" 44 y_Mo_forge ∈ er_T := er_inT 508 (by decide +kernel) (by decide +kernel)
theorem wm_511 : Cond.code y_Mo_forge b_Mo_forge 7 (some .boolean) ∈ er_T := er_inT 511 (by decide +kernel) (by decide +kernel)
theorem wm_509 : Cond.instanceMethod y_Mo_forge ∈ er_T := er_inT 509 (by decide +kernel) (by decide +kernel)
theorem wm_510 : Cond.selects "EchoedRoundsModel" y_Mo_forge y_Mo_forge ∈ er_T := er_inT 510 (by decide +kernel) (by decide +kernel)
theorem wm_319 : Cond.methodLink "EchoedRoundsLaw" 40 y_ER_forge ∈ er_T := er_inT 319 (by decide +kernel) (by decide +kernel)
theorem wm_322 : Cond.code y_ER_forge b_ER_forge 7 (some .boolean) ∈ er_T := er_inT 322 (by decide +kernel) (by decide +kernel)
theorem wm_320 : Cond.instanceMethod y_ER_forge ∈ er_T := er_inT 320 (by decide +kernel) (by decide +kernel)
theorem wm_321 : Cond.selects "EchoedRounds" y_ER_forge y_ER_forge ∈ er_T := er_inT 321 (by decide +kernel) (by decide +kernel)
theorem wm_512 : Cond.methodLink "EchoedRoundsLaw" 49 y_Mo_sent ∈ er_T := er_inT 512 (by decide +kernel) (by decide +kernel)
theorem wm_515 : Cond.code y_Mo_sent b_Mo_sent 2 (some .int) ∈ er_T := er_inT 515 (by decide +kernel) (by decide +kernel)
theorem wm_513 : Cond.instanceMethod y_Mo_sent ∈ er_T := er_inT 513 (by decide +kernel) (by decide +kernel)
theorem wm_514 : Cond.selects "EchoedRoundsModel" y_Mo_sent y_Mo_sent ∈ er_T := er_inT 514 (by decide +kernel) (by decide +kernel)
theorem wm_326 : Cond.methodLink "EchoedRoundsLaw" 45 y_ER_sent ∈ er_T := er_inT 326 (by decide +kernel) (by decide +kernel)
theorem wm_329 : Cond.code y_ER_sent b_ER_sent 2 (some .int) ∈ er_T := er_inT 329 (by decide +kernel) (by decide +kernel)
theorem wm_327 : Cond.instanceMethod y_ER_sent ∈ er_T := er_inT 327 (by decide +kernel) (by decide +kernel)
theorem wm_328 : Cond.selects "EchoedRounds" y_ER_sent y_ER_sent ∈ er_T := er_inT 328 (by decide +kernel) (by decide +kernel)
theorem wm_516 : Cond.methodLink "EchoedRoundsLaw" 54 y_Mo_message ∈ er_T := er_inT 516 (by decide +kernel) (by decide +kernel)
theorem wm_519 : Cond.code y_Mo_message b_Mo_message 3 (some .int) ∈ er_T := er_inT 519 (by decide +kernel) (by decide +kernel)
theorem wm_517 : Cond.instanceMethod y_Mo_message ∈ er_T := er_inT 517 (by decide +kernel) (by decide +kernel)
theorem wm_518 : Cond.selects "EchoedRoundsModel" y_Mo_message y_Mo_message ∈ er_T := er_inT 518 (by decide +kernel) (by decide +kernel)
theorem wm_330 : Cond.methodLink "EchoedRoundsLaw" 50 y_ER_message ∈ er_T := er_inT 330 (by decide +kernel) (by decide +kernel)
theorem wm_333 : Cond.code y_ER_message b_ER_message 3 (some .int) ∈ er_T := er_inT 333 (by decide +kernel) (by decide +kernel)
theorem wm_331 : Cond.instanceMethod y_ER_message ∈ er_T := er_inT 331 (by decide +kernel) (by decide +kernel)
theorem wm_332 : Cond.selects "EchoedRounds" y_ER_message y_ER_message ∈ er_T := er_inT 332 (by decide +kernel) (by decide +kernel)
theorem wm_520 : Cond.methodLink "EchoedRoundsLaw" 58 y_Mo_waiting ∈ er_T := er_inT 520 (by decide +kernel) (by decide +kernel)
theorem wm_523 : Cond.code y_Mo_waiting b_Mo_waiting 3 (some .int) ∈ er_T := er_inT 523 (by decide +kernel) (by decide +kernel)
theorem wm_521 : Cond.instanceMethod y_Mo_waiting ∈ er_T := er_inT 521 (by decide +kernel) (by decide +kernel)
theorem wm_522 : Cond.selects "EchoedRoundsModel" y_Mo_waiting y_Mo_waiting ∈ er_T := er_inT 522 (by decide +kernel) (by decide +kernel)
theorem wm_335 : Cond.methodLink "EchoedRoundsLaw" 55 y_ER_waiting ∈ er_T := er_inT 335 (by decide +kernel) (by decide +kernel)
theorem wm_338 : Cond.code y_ER_waiting b_ER_waiting 3 (some .int) ∈ er_T := er_inT 338 (by decide +kernel) (by decide +kernel)
theorem wm_336 : Cond.instanceMethod y_ER_waiting ∈ er_T := er_inT 336 (by decide +kernel) (by decide +kernel)
theorem wm_337 : Cond.selects "EchoedRounds" y_ER_waiting y_ER_waiting ∈ er_T := er_inT 337 (by decide +kernel) (by decide +kernel)
theorem wm_531 : Cond.methodLink "EchoedRoundsLaw" 67 y_Mo_accepted ∈ er_T := er_inT 531 (by decide +kernel) (by decide +kernel)
theorem wm_534 : Cond.code y_Mo_accepted b_Mo_accepted 4 (some .int) ∈ er_T := er_inT 534 (by decide +kernel) (by decide +kernel)
theorem wm_532 : Cond.instanceMethod y_Mo_accepted ∈ er_T := er_inT 532 (by decide +kernel) (by decide +kernel)
theorem wm_533 : Cond.selects "EchoedRoundsModel" y_Mo_accepted y_Mo_accepted ∈ er_T := er_inT 533 (by decide +kernel) (by decide +kernel)
theorem wm_345 : Cond.methodLink "EchoedRoundsLaw" 64 y_ER_accepted ∈ er_T := er_inT 345 (by decide +kernel) (by decide +kernel)
theorem wm_348 : Cond.code y_ER_accepted b_ER_accepted 4 (some .int) ∈ er_T := er_inT 348 (by decide +kernel) (by decide +kernel)
theorem wm_346 : Cond.instanceMethod y_ER_accepted ∈ er_T := er_inT 346 (by decide +kernel) (by decide +kernel)
theorem wm_347 : Cond.selects "EchoedRounds" y_ER_accepted y_ER_accepted ∈ er_T := er_inT 347 (by decide +kernel) (by decide +kernel)
theorem wm_535 : Cond.methodLink "EchoedRoundsLaw" 71 y_Mo_rowAt ∈ er_T := er_inT 535 (by decide +kernel) (by decide +kernel)
theorem wm_538 : Cond.code y_Mo_rowAt b_Mo_rowAt 4 (some .int) ∈ er_T := er_inT 538 (by decide +kernel) (by decide +kernel)
theorem wm_536 : Cond.instanceMethod y_Mo_rowAt ∈ er_T := er_inT 536 (by decide +kernel) (by decide +kernel)
theorem wm_537 : Cond.selects "EchoedRoundsModel" y_Mo_rowAt y_Mo_rowAt ∈ er_T := er_inT 537 (by decide +kernel) (by decide +kernel)
theorem wm_349 : Cond.methodLink "EchoedRoundsLaw" 68 y_ER_rowAt ∈ er_T := er_inT 349 (by decide +kernel) (by decide +kernel)
theorem wm_352 : Cond.code y_ER_rowAt b_ER_rowAt 4 (some .int) ∈ er_T := er_inT 352 (by decide +kernel) (by decide +kernel)
theorem wm_350 : Cond.instanceMethod y_ER_rowAt ∈ er_T := er_inT 350 (by decide +kernel) (by decide +kernel)
theorem wm_351 : Cond.selects "EchoedRounds" y_ER_rowAt y_ER_rowAt ∈ er_T := er_inT 351 (by decide +kernel) (by decide +kernel)
theorem wm_539 : Cond.methodLink "EchoedRoundsLaw" 75 y_Mo_slot ∈ er_T := er_inT 539 (by decide +kernel) (by decide +kernel)
theorem wm_542 : Cond.code y_Mo_slot b_Mo_slot 2 (some .int) ∈ er_T := er_inT 542 (by decide +kernel) (by decide +kernel)
theorem wm_540 : Cond.instanceMethod y_Mo_slot ∈ er_T := er_inT 540 (by decide +kernel) (by decide +kernel)
theorem wm_541 : Cond.selects "EchoedRoundsModel" y_Mo_slot y_Mo_slot ∈ er_T := er_inT 541 (by decide +kernel) (by decide +kernel)
theorem wm_357 : Cond.methodLink "EchoedRoundsLaw" 72 y_ER_slot ∈ er_T := er_inT 357 (by decide +kernel) (by decide +kernel)
theorem wm_360 : Cond.code y_ER_slot b_ER_slot 2 (some .int) ∈ er_T := er_inT 360 (by decide +kernel) (by decide +kernel)
theorem wm_358 : Cond.instanceMethod y_ER_slot ∈ er_T := er_inT 358 (by decide +kernel) (by decide +kernel)
theorem wm_359 : Cond.selects "EchoedRounds" y_ER_slot y_ER_slot ∈ er_T := er_inT 359 (by decide +kernel) (by decide +kernel)
theorem wm_543 : Cond.methodLink "EchoedRoundsLaw" 79 y_Mo_value ∈ er_T := er_inT 543 (by decide +kernel) (by decide +kernel)
theorem wm_546 : Cond.code y_Mo_value b_Mo_value 2 (some .int) ∈ er_T := er_inT 546 (by decide +kernel) (by decide +kernel)
theorem wm_544 : Cond.instanceMethod y_Mo_value ∈ er_T := er_inT 544 (by decide +kernel) (by decide +kernel)
theorem wm_545 : Cond.selects "EchoedRoundsModel" y_Mo_value y_Mo_value ∈ er_T := er_inT 545 (by decide +kernel) (by decide +kernel)
theorem wm_361 : Cond.methodLink "EchoedRoundsLaw" 76 y_ER_value ∈ er_T := er_inT 361 (by decide +kernel) (by decide +kernel)
theorem wm_364 : Cond.code y_ER_value b_ER_value 2 (some .int) ∈ er_T := er_inT 364 (by decide +kernel) (by decide +kernel)
theorem wm_362 : Cond.instanceMethod y_ER_value ∈ er_T := er_inT 362 (by decide +kernel) (by decide +kernel)
theorem wm_363 : Cond.selects "EchoedRounds" y_ER_value y_ER_value ∈ er_T := er_inT 363 (by decide +kernel) (by decide +kernel)
theorem wm_547 : Cond.methodLink "EchoedRoundsLaw" 83 y_Mo_decided ∈ er_T := er_inT 547 (by decide +kernel) (by decide +kernel)
theorem wm_550 : Cond.code y_Mo_decided b_Mo_decided 2 (some .int) ∈ er_T := er_inT 550 (by decide +kernel) (by decide +kernel)
theorem wm_548 : Cond.instanceMethod y_Mo_decided ∈ er_T := er_inT 548 (by decide +kernel) (by decide +kernel)
theorem wm_549 : Cond.selects "EchoedRoundsModel" y_Mo_decided y_Mo_decided ∈ er_T := er_inT 549 (by decide +kernel) (by decide +kernel)
theorem wm_365 : Cond.methodLink "EchoedRoundsLaw" 80 y_ER_decided ∈ er_T := er_inT 365 (by decide +kernel) (by decide +kernel)
theorem wm_368 : Cond.code y_ER_decided b_ER_decided 2 (some .int) ∈ er_T := er_inT 368 (by decide +kernel) (by decide +kernel)
theorem wm_366 : Cond.instanceMethod y_ER_decided ∈ er_T := er_inT 366 (by decide +kernel) (by decide +kernel)
theorem wm_367 : Cond.selects "EchoedRounds" y_ER_decided y_ER_decided ∈ er_T := er_inT 367 (by decide +kernel) (by decide +kernel)
theorem wm_374 : Cond.methodLink "EchoedRoundsLaw" 20 y_Mo_init ∈ er_T := er_inT 374 (by decide +kernel) (by decide +kernel)
theorem wm_376 : Cond.code y_Mo_init b_Mo_init 3 (none) ∈ er_T := er_inT 376 (by decide +kernel) (by decide +kernel)
theorem wm_375 : Cond.instanceMethod y_Mo_init ∈ er_T := er_inT 375 (by decide +kernel) (by decide +kernel)
theorem wm_369 : Cond.methodLink "EchoedRoundsLaw" 9 y_Law_cell ∈ er_T := er_inT 369 (by decide +kernel) (by decide +kernel)
theorem wm_0 : Cond.initialized "EchoedRoundsLaw" ∈ er_T := er_inT 0 (by decide +kernel) (by decide +kernel)
theorem wm_371 : Cond.code y_Law_cell b_Law_cell 2 (some .int) ∈ er_T := er_inT 371 (by decide +kernel) (by decide +kernel)
theorem wm_370 : Cond.static y_Law_cell ∈ er_T := er_inT 370 (by decide +kernel) (by decide +kernel)
theorem wm_11 : Cond.methodLink "EchoedRoundsLaw" 15 y_ER_init ∈ er_T := er_inT 11 (by decide +kernel) (by decide +kernel)
theorem wm_13 : Cond.code y_ER_init b_ER_init 5 (none) ∈ er_T := er_inT 13 (by decide +kernel) (by decide +kernel)
theorem wm_12 : Cond.instanceMethod y_ER_init ∈ er_T := er_inT 12 (by decide +kernel) (by decide +kernel)
theorem wn_92 : Cond.fieldLinkNest "EchoedRounds$Rules" 24 "EchoedRounds$Row" "size" "I" "EchoedRounds" ∈ er_Ns := er_inN 92 (by decide +kernel) rfl
theorem wn_90 : Cond.fieldLinkNest "EchoedRounds$Rules" 58 "EchoedRounds$Row" "counts" "[I" "EchoedRounds" ∈ er_Ns := er_inN 90 (by decide +kernel) rfl
theorem wn_117 : Cond.fieldLinkNest "EchoedRounds" 36 "EchoedRounds$Node" "wellBehaved" "Z" "EchoedRounds" ∈ er_Ns := er_inN 117 (by decide +kernel) rfl
theorem wn_106 : Cond.fieldLinkNest "EchoedRounds" 60 "EchoedRounds$Node" "log" "LEchoedRounds$Log;" "EchoedRounds" ∈ er_Ns := er_inN 106 (by decide +kernel) rfl
theorem wn_60 : Cond.fieldLinkNest "EchoedRounds" 79 "EchoedRounds$Log" "size" "I" "EchoedRounds" ∈ er_Ns := er_inN 60 (by decide +kernel) rfl
theorem wn_110 : Cond.fieldLinkNest "EchoedRounds" 88 "EchoedRounds$Node" "heardOf" "[I" "EchoedRounds" ∈ er_Ns := er_inN 110 (by decide +kernel) rfl
theorem wn_108 : Cond.fieldLinkNest "EchoedRounds" 92 "EchoedRounds$Node" "tally" "LEchoedRounds$Tally;" "EchoedRounds" ∈ er_Ns := er_inN 108 (by decide +kernel) rfl
theorem wn_113 : Cond.fieldLinkNest "EchoedRounds" 105 "EchoedRounds$Node" "taken" "[I" "EchoedRounds" ∈ er_Ns := er_inN 113 (by decide +kernel) rfl
theorem wn_115 : Cond.fieldLinkNest "EchoedRounds" 108 "EchoedRounds$Node" "rows" "[LEchoedRounds$Row;" "EchoedRounds" ∈ er_Ns := er_inN 115 (by decide +kernel) rfl
theorem wn_121 : Cond.fieldLinkNest "EchoedRounds" 44 "EchoedRounds$Node" "currentSlot" "I" "EchoedRounds" ∈ er_Ns := er_inN 121 (by decide +kernel) rfl
theorem wn_123 : Cond.fieldLinkNest "EchoedRounds" 117 "EchoedRounds$Node" "currentValue" "I" "EchoedRounds" ∈ er_Ns := er_inN 123 (by decide +kernel) rfl
theorem wn_125 : Cond.fieldLinkNest "EchoedRounds" 120 "EchoedRounds$Node" "decision" "I" "EchoedRounds" ∈ er_Ns := er_inN 125 (by decide +kernel) rfl
theorem wn_119 : Cond.fieldLinkNest "EchoedRounds" 40 "EchoedRounds$Node" "tossBits" "I" "EchoedRounds" ∈ er_Ns := er_inN 119 (by decide +kernel) rfl
theorem wn_35 : Cond.fieldLinkNest "EchoedRounds$Node" 102 "EchoedRounds$Rules" "echoesForReady" "I" "EchoedRounds" ∈ er_Ns := er_inN 35 (by decide +kernel) rfl
theorem wn_32 : Cond.fieldLinkNest "EchoedRounds$Node" 110 "EchoedRounds$Rules" "liars" "I" "EchoedRounds" ∈ er_Ns := er_inN 32 (by decide +kernel) rfl
theorem wn_30 : Cond.fieldLinkNest "EchoedRounds$Node" 124 "EchoedRounds$Rules" "count" "I" "EchoedRounds" ∈ er_Ns := er_inN 30 (by decide +kernel) rfl
theorem wn_83 : Cond.methodLinkNest "EchoedRounds$Node" 66 y_Row_init "EchoedRounds" ∈ er_Ns := er_inN 83 (by decide +kernel) rfl
theorem wn_69 : Cond.methodLinkNest "EchoedRounds$Node" 20 y_Tally_init "EchoedRounds" ∈ er_Ns := er_inN 69 (by decide +kernel) rfl
theorem wn_54 : Cond.methodLinkNest "EchoedRounds$Node" 11 y_Log_init "EchoedRounds" ∈ er_Ns := er_inN 54 (by decide +kernel) rfl
theorem wn_187 : Cond.methodLinkNest "EchoedRounds$Node" 71 y_Log_append "EchoedRounds" ∈ er_Ns := er_inN 187 (by decide +kernel) rfl
theorem wn_184 : Cond.methodLinkNest "EchoedRounds$Node" 67 y_ER_codeOf "EchoedRounds" ∈ er_Ns := er_inN 184 (by decide +kernel) rfl
theorem wn_207 : Cond.methodLinkNest "EchoedRounds$Node" 83 y_ER_cellOf "EchoedRounds" ∈ er_Ns := er_inN 207 (by decide +kernel) rfl
theorem wn_297 : Cond.methodLinkNest "EchoedRounds$Rules" 68 y_Row_countInFirst "EchoedRounds" ∈ er_Ns := er_inN 297 (by decide +kernel) rfl
theorem wn_334 : Cond.methodLinkNest "EchoedRounds" 84 y_Log_codeAt "EchoedRounds" ∈ er_Ns := er_inN 334 (by decide +kernel) rfl
theorem wn_344 : Cond.methodLinkNest "EchoedRounds" 99 y_Tally_count "EchoedRounds" ∈ er_Ns := er_inN 344 (by decide +kernel) rfl
theorem wn_353 : Cond.methodLinkNest "EchoedRounds" 112 y_Row_speakerAt "EchoedRounds" ∈ er_Ns := er_inN 353 (by decide +kernel) rfl
theorem wn_48 : Cond.methodLinkNest "EchoedRounds" 29 y_Node_init "EchoedRounds" ∈ er_Ns := er_inN 48 (by decide +kernel) rfl
theorem wn_25 : Cond.methodLinkNest "EchoedRounds" 20 y_Rules_init "EchoedRounds" ∈ er_Ns := er_inN 25 (by decide +kernel) rfl
theorem wn_218 : Cond.methodLinkNest "EchoedRounds$Node" 98 y_Tally_count "EchoedRounds" ∈ er_Ns := er_inN 218 (by decide +kernel) rfl
theorem wn_268 : Cond.methodLinkNest "EchoedRounds$Rules" 48 y_ER_isPlain "EchoedRounds" ∈ er_Ns := er_inN 268 (by decide +kernel) rfl
theorem wn_260 : Cond.methodLinkNest "EchoedRounds$Rules" 41 y_Row_holdsWith "EchoedRounds" ∈ er_Ns := er_inN 260 (by decide +kernel) rfl
theorem wn_309 : Cond.methodLinkNest "EchoedRounds$Node" 168 y_Rules_heldFirm "EchoedRounds" ∈ er_Ns := er_inN 309 (by decide +kernel) rfl
theorem wn_210 : Cond.methodLinkNest "EchoedRounds$Node" 87 y_Tally_countIn "EchoedRounds" ∈ er_Ns := er_inN 210 (by decide +kernel) rfl
theorem wn_243 : Cond.methodLinkNest "EchoedRounds$Node" 139 y_Rules_follows "EchoedRounds" ∈ er_Ns := er_inN 243 (by decide +kernel) rfl
theorem wn_242 : Cond.methodLinkNest "EchoedRounds$Node" 136 y_ER_isPlain "EchoedRounds" ∈ er_Ns := er_inN 242 (by decide +kernel) rfl
theorem wn_238 : Cond.methodLinkNest "EchoedRounds$Node" 132 y_Row_holds "EchoedRounds" ∈ er_Ns := er_inN 238 (by decide +kernel) rfl
theorem wn_301 : Cond.methodLinkNest "EchoedRounds$Node" 160 y_Rules_firmOr "EchoedRounds" ∈ er_Ns := er_inN 301 (by decide +kernel) rfl
theorem wn_293 : Cond.methodLinkNest "EchoedRounds$Node" 156 y_Rules_prevailing "EchoedRounds" ∈ er_Ns := er_inN 293 (by decide +kernel) rfl
theorem wn_199 : Cond.methodLinkNest "EchoedRounds$Node" 75 y_Log_codeAt "EchoedRounds" ∈ er_Ns := er_inN 199 (by decide +kernel) rfl
theorem wn_277 : Cond.methodLinkNest "EchoedRounds$Node" 129 y_Row_append "EchoedRounds" ∈ er_Ns := er_inN 277 (by decide +kernel) rfl
theorem wn_288 : Cond.methodLinkNest "EchoedRounds$Node" 146 y_Rules_isFull "EchoedRounds" ∈ er_Ns := er_inN 288 (by decide +kernel) rfl
theorem wn_285 : Cond.methodLinkNest "EchoedRounds$Node" 143 y_ER_isSlot "EchoedRounds" ∈ er_Ns := er_inN 285 (by decide +kernel) rfl
theorem wn_191 : Cond.methodLinkNest "EchoedRounds" 54 y_Node_settle "EchoedRounds" ∈ er_Ns := er_inN 191 (by decide +kernel) rfl
theorem wn_180 : Cond.methodLinkNest "EchoedRounds" 50 y_Node_enter "EchoedRounds" ∈ er_Ns := er_inN 180 (by decide +kernel) rfl
theorem wn_318 : Cond.methodLinkNest "EchoedRounds" 64 y_Node_hearNextOf "EchoedRounds" ∈ er_Ns := er_inN 318 (by decide +kernel) rfl
theorem wn_325 : Cond.methodLinkNest "EchoedRounds" 75 y_Node_hear "EchoedRounds" ∈ er_Ns := er_inN 325 (by decide +kernel) rfl
theorem ws_ER_isNode : Cond.selects "EchoedRounds" y_ER_isNode y_ER_isNode ∈ er_T := List.mem_filter.mpr ⟨List.mem_append_left _ (List.mem_map.mpr ⟨(y_ER_isNode, 1), by decide +kernel, rfl⟩), by decide +kernel⟩
theorem ws_Log_append : Cond.selects "EchoedRounds$Log" y_Log_append y_Log_append ∈ er_T := List.mem_filter.mpr ⟨List.mem_append_left _ (List.mem_map.mpr ⟨(y_Log_append, 2), by decide +kernel, rfl⟩), by decide +kernel⟩
theorem ws_Rules_mostChosen : Cond.selects "EchoedRounds$Rules" y_Rules_mostChosen y_Rules_mostChosen ∈ er_T := List.mem_filter.mpr ⟨List.mem_append_left _ (List.mem_map.mpr ⟨(y_Rules_mostChosen, 4), by decide +kernel, rfl⟩), by decide +kernel⟩
theorem ws_Row_countInFirst : Cond.selects "EchoedRounds$Row" y_Row_countInFirst y_Row_countInFirst ∈ er_T := List.mem_filter.mpr ⟨List.mem_append_left _ (List.mem_map.mpr ⟨(y_Row_countInFirst, 4), by decide +kernel, rfl⟩), by decide +kernel⟩
theorem ws_Rules_isMajority : Cond.selects "EchoedRounds$Rules" y_Rules_isMajority y_Rules_isMajority ∈ er_T := List.mem_filter.mpr ⟨List.mem_append_left _ (List.mem_map.mpr ⟨(y_Rules_isMajority, 4), by decide +kernel, rfl⟩), by decide +kernel⟩
theorem ws_Log_codeAt : Cond.selects "EchoedRounds$Log" y_Log_codeAt y_Log_codeAt ∈ er_T := List.mem_filter.mpr ⟨List.mem_append_left _ (List.mem_map.mpr ⟨(y_Log_codeAt, 2), by decide +kernel, rfl⟩), by decide +kernel⟩
theorem ws_Tally_count : Cond.selects "EchoedRounds$Tally" y_Tally_count y_Tally_count ∈ er_T := List.mem_filter.mpr ⟨List.mem_append_left _ (List.mem_map.mpr ⟨(y_Tally_count, 2), by decide +kernel, rfl⟩), by decide +kernel⟩
theorem ws_Row_speakerAt : Cond.selects "EchoedRounds$Row" y_Row_speakerAt y_Row_speakerAt ∈ er_T := List.mem_filter.mpr ⟨List.mem_append_left _ (List.mem_map.mpr ⟨(y_Row_speakerAt, 4), by decide +kernel, rfl⟩), by decide +kernel⟩
theorem ws_Mo_isNode : Cond.selects "EchoedRoundsModel" y_Mo_isNode y_Mo_isNode ∈ er_T := List.mem_filter.mpr ⟨List.mem_append_left _ (List.mem_map.mpr ⟨(y_Mo_isNode, 18), by decide +kernel, rfl⟩), by decide +kernel⟩
theorem ws_Mo_firmValue : Cond.selects "EchoedRoundsModel" y_Mo_firmValue y_Mo_firmValue ∈ er_T := List.mem_filter.mpr ⟨List.mem_append_left _ (List.mem_map.mpr ⟨(y_Mo_firmValue, 18), by decide +kernel, rfl⟩), by decide +kernel⟩
theorem ws_Mo_count : Cond.selects "EchoedRoundsModel" y_Mo_count y_Mo_count ∈ er_T := List.mem_filter.mpr ⟨List.mem_append_left _ (List.mem_map.mpr ⟨(y_Mo_count, 18), by decide +kernel, rfl⟩), by decide +kernel⟩
theorem ws_ER_isWellBehaved : Cond.selects "EchoedRounds" y_ER_isWellBehaved y_ER_isWellBehaved ∈ er_T := List.mem_filter.mpr ⟨List.mem_append_left _ (List.mem_map.mpr ⟨(y_ER_isWellBehaved, 1), by decide +kernel, rfl⟩), by decide +kernel⟩
theorem ws_Node_sendReadyOnce : Cond.selects "EchoedRounds$Node" y_Node_sendReadyOnce y_Node_sendReadyOnce ∈ er_T := List.mem_filter.mpr ⟨List.mem_append_left _ (List.mem_map.mpr ⟨(y_Node_sendReadyOnce, 13), by decide +kernel, rfl⟩), by decide +kernel⟩
theorem ws_Rules_canNeedToss : Cond.selects "EchoedRounds$Rules" y_Rules_canNeedToss y_Rules_canNeedToss ∈ er_T := List.mem_filter.mpr ⟨List.mem_append_left _ (List.mem_map.mpr ⟨(y_Rules_canNeedToss, 4), by decide +kernel, rfl⟩), by decide +kernel⟩
theorem ws_Rules_canPrevail : Cond.selects "EchoedRounds$Rules" y_Rules_canPrevail y_Rules_canPrevail ∈ er_T := List.mem_filter.mpr ⟨List.mem_append_left _ (List.mem_map.mpr ⟨(y_Rules_canPrevail, 4), by decide +kernel, rfl⟩), by decide +kernel⟩
theorem ws_Rules_canStayDivided : Cond.selects "EchoedRounds$Rules" y_Rules_canStayDivided y_Rules_canStayDivided ∈ er_T := List.mem_filter.mpr ⟨List.mem_append_left _ (List.mem_map.mpr ⟨(y_Rules_canStayDivided, 4), by decide +kernel, rfl⟩), by decide +kernel⟩
theorem ws_Row_holdsWith : Cond.selects "EchoedRounds$Row" y_Row_holdsWith y_Row_holdsWith ∈ er_T := List.mem_filter.mpr ⟨List.mem_append_left _ (List.mem_map.mpr ⟨(y_Row_holdsWith, 4), by decide +kernel, rfl⟩), by decide +kernel⟩
theorem ws_Rules_isFull : Cond.selects "EchoedRounds$Rules" y_Rules_isFull y_Rules_isFull ∈ er_T := List.mem_filter.mpr ⟨List.mem_append_left _ (List.mem_map.mpr ⟨(y_Rules_isFull, 4), by decide +kernel, rfl⟩), by decide +kernel⟩
theorem ws_Rules_heldFirm : Cond.selects "EchoedRounds$Rules" y_Rules_heldFirm y_Rules_heldFirm ∈ er_T := List.mem_filter.mpr ⟨List.mem_append_left _ (List.mem_map.mpr ⟨(y_Rules_heldFirm, 4), by decide +kernel, rfl⟩), by decide +kernel⟩
theorem ws_Mo_well : Cond.selects "EchoedRoundsModel" y_Mo_well y_Mo_well ∈ er_T := List.mem_filter.mpr ⟨List.mem_append_left _ (List.mem_map.mpr ⟨(y_Mo_well, 18), by decide +kernel, rfl⟩), by decide +kernel⟩
theorem ws_Mo_send : Cond.selects "EchoedRoundsModel" y_Mo_send y_Mo_send ∈ er_T := List.mem_filter.mpr ⟨List.mem_append_left _ (List.mem_map.mpr ⟨(y_Mo_send, 18), by decide +kernel, rfl⟩), by decide +kernel⟩
theorem ws_Mo_setDoes : Cond.selects "EchoedRoundsModel" y_Mo_setDoes y_Mo_setDoes ∈ er_T := List.mem_filter.mpr ⟨List.mem_append_left _ (List.mem_map.mpr ⟨(y_Mo_setDoes, 18), by decide +kernel, rfl⟩), by decide +kernel⟩
theorem ws_Mo_afterFirm : Cond.selects "EchoedRoundsModel" y_Mo_afterFirm y_Mo_afterFirm ∈ er_T := List.mem_filter.mpr ⟨List.mem_append_left _ (List.mem_map.mpr ⟨(y_Mo_afterFirm, 18), by decide +kernel, rfl⟩), by decide +kernel⟩
theorem ws_Node_hearReady : Cond.selects "EchoedRounds$Node" y_Node_hearReady y_Node_hearReady ∈ er_T := List.mem_filter.mpr ⟨List.mem_append_left _ (List.mem_map.mpr ⟨(y_Node_hearReady, 13), by decide +kernel, rfl⟩), by decide +kernel⟩
theorem ws_Node_hearEcho : Cond.selects "EchoedRounds$Node" y_Node_hearEcho y_Node_hearEcho ∈ er_T := List.mem_filter.mpr ⟨List.mem_append_left _ (List.mem_map.mpr ⟨(y_Node_hearEcho, 13), by decide +kernel, rfl⟩), by decide +kernel⟩
theorem ws_Tally_countIn : Cond.selects "EchoedRounds$Tally" y_Tally_countIn y_Tally_countIn ∈ er_T := List.mem_filter.mpr ⟨List.mem_append_left _ (List.mem_map.mpr ⟨(y_Tally_countIn, 2), by decide +kernel, rfl⟩), by decide +kernel⟩
theorem ws_Rules_follows : Cond.selects "EchoedRounds$Rules" y_Rules_follows y_Rules_follows ∈ er_T := List.mem_filter.mpr ⟨List.mem_append_left _ (List.mem_map.mpr ⟨(y_Rules_follows, 4), by decide +kernel, rfl⟩), by decide +kernel⟩
theorem ws_Row_holds : Cond.selects "EchoedRounds$Row" y_Row_holds y_Row_holds ∈ er_T := List.mem_filter.mpr ⟨List.mem_append_left _ (List.mem_map.mpr ⟨(y_Row_holds, 4), by decide +kernel, rfl⟩), by decide +kernel⟩
theorem ws_Node_endRound : Cond.selects "EchoedRounds$Node" y_Node_endRound y_Node_endRound ∈ er_T := List.mem_filter.mpr ⟨List.mem_append_left _ (List.mem_map.mpr ⟨(y_Node_endRound, 13), by decide +kernel, rfl⟩), by decide +kernel⟩
theorem ws_Rules_firmOr : Cond.selects "EchoedRounds$Rules" y_Rules_firmOr y_Rules_firmOr ∈ er_T := List.mem_filter.mpr ⟨List.mem_append_left _ (List.mem_map.mpr ⟨(y_Rules_firmOr, 4), by decide +kernel, rfl⟩), by decide +kernel⟩
theorem ws_Rules_prevailing : Cond.selects "EchoedRounds$Rules" y_Rules_prevailing y_Rules_prevailing ∈ er_T := List.mem_filter.mpr ⟨List.mem_append_left _ (List.mem_map.mpr ⟨(y_Rules_prevailing, 4), by decide +kernel, rfl⟩), by decide +kernel⟩
theorem ws_Mo_receive : Cond.selects "EchoedRoundsModel" y_Mo_receive y_Mo_receive ∈ er_T := List.mem_filter.mpr ⟨List.mem_append_left _ (List.mem_map.mpr ⟨(y_Mo_receive, 18), by decide +kernel, rfl⟩), by decide +kernel⟩
theorem ws_Mo_some : Cond.selects "EchoedRoundsModel" y_Mo_some y_Mo_some ∈ er_T := List.mem_filter.mpr ⟨List.mem_append_left _ (List.mem_map.mpr ⟨(y_Mo_some, 18), by decide +kernel, rfl⟩), by decide +kernel⟩
theorem ws_Node_hear : Cond.selects "EchoedRounds$Node" y_Node_hear y_Node_hear ∈ er_T := List.mem_filter.mpr ⟨List.mem_append_left _ (List.mem_map.mpr ⟨(y_Node_hear, 13), by decide +kernel, rfl⟩), by decide +kernel⟩
theorem ws_Row_append : Cond.selects "EchoedRounds$Row" y_Row_append y_Row_append ∈ er_T := List.mem_filter.mpr ⟨List.mem_append_left _ (List.mem_map.mpr ⟨(y_Row_append, 4), by decide +kernel, rfl⟩), by decide +kernel⟩
theorem ws_Node_canBecomeValid : Cond.selects "EchoedRounds$Node" y_Node_canBecomeValid y_Node_canBecomeValid ∈ er_T := List.mem_filter.mpr ⟨List.mem_append_left _ (List.mem_map.mpr ⟨(y_Node_canBecomeValid, 13), by decide +kernel, rfl⟩), by decide +kernel⟩
theorem ws_Node_enter : Cond.selects "EchoedRounds$Node" y_Node_enter y_Node_enter ∈ er_T := List.mem_filter.mpr ⟨List.mem_append_left _ (List.mem_map.mpr ⟨(y_Node_enter, 13), by decide +kernel, rfl⟩), by decide +kernel⟩
theorem ws_Node_valueAfter : Cond.selects "EchoedRounds$Node" y_Node_valueAfter y_Node_valueAfter ∈ er_T := List.mem_filter.mpr ⟨List.mem_append_left _ (List.mem_map.mpr ⟨(y_Node_valueAfter, 13), by decide +kernel, rfl⟩), by decide +kernel⟩
theorem ws_Mo_can : Cond.selects "EchoedRoundsModel" y_Mo_can y_Mo_can ∈ er_T := List.mem_filter.mpr ⟨List.mem_append_left _ (List.mem_map.mpr ⟨(y_Mo_can, 18), by decide +kernel, rfl⟩), by decide +kernel⟩
theorem ws_Node_goOn : Cond.selects "EchoedRounds$Node" y_Node_goOn y_Node_goOn ∈ er_T := List.mem_filter.mpr ⟨List.mem_append_left _ (List.mem_map.mpr ⟨(y_Node_goOn, 13), by decide +kernel, rfl⟩), by decide +kernel⟩
theorem ws_Node_makeOneValid : Cond.selects "EchoedRounds$Node" y_Node_makeOneValid y_Node_makeOneValid ∈ er_T := List.mem_filter.mpr ⟨List.mem_append_left _ (List.mem_map.mpr ⟨(y_Node_makeOneValid, 13), by decide +kernel, rfl⟩), by decide +kernel⟩
theorem ws_Node_hearNextOf : Cond.selects "EchoedRounds$Node" y_Node_hearNextOf y_Node_hearNextOf ∈ er_T := List.mem_filter.mpr ⟨List.mem_append_left _ (List.mem_map.mpr ⟨(y_Node_hearNextOf, 13), by decide +kernel, rfl⟩), by decide +kernel⟩
theorem ws_Mo_goOn : Cond.selects "EchoedRoundsModel" y_Mo_goOn y_Mo_goOn ∈ er_T := List.mem_filter.mpr ⟨List.mem_append_left _ (List.mem_map.mpr ⟨(y_Mo_goOn, 18), by decide +kernel, rfl⟩), by decide +kernel⟩
theorem ws_Mo_validate : Cond.selects "EchoedRoundsModel" y_Mo_validate y_Mo_validate ∈ er_T := List.mem_filter.mpr ⟨List.mem_append_left _ (List.mem_map.mpr ⟨(y_Mo_validate, 18), by decide +kernel, rfl⟩), by decide +kernel⟩
theorem ws_Mo_receiveFromLog : Cond.selects "EchoedRoundsModel" y_Mo_receiveFromLog y_Mo_receiveFromLog ∈ er_T := List.mem_filter.mpr ⟨List.mem_append_left _ (List.mem_map.mpr ⟨(y_Mo_receiveFromLog, 18), by decide +kernel, rfl⟩), by decide +kernel⟩
theorem ws_Node_settle : Cond.selects "EchoedRounds$Node" y_Node_settle y_Node_settle ∈ er_T := List.mem_filter.mpr ⟨List.mem_append_left _ (List.mem_map.mpr ⟨(y_Node_settle, 13), by decide +kernel, rfl⟩), by decide +kernel⟩
theorem ws_Mo_settle : Cond.selects "EchoedRoundsModel" y_Mo_settle y_Mo_settle ∈ er_T := List.mem_filter.mpr ⟨List.mem_append_left _ (List.mem_map.mpr ⟨(y_Mo_settle, 18), by decide +kernel, rfl⟩), by decide +kernel⟩
theorem fd_Rules_9 : er_Fd "EchoedRounds$Rules" 9 2 0 false true (.int) "EchoedRounds$Rules" false := ⟨1, _, _, _, _, by decide, cl_Rules, by decide, rfl, rfl, by decide +kernel, rfl, Or.inl ⟨rfl, wm_29⟩⟩
theorem fd_Rules_15 : er_Fd "EchoedRounds$Rules" 15 2 1 false true (.int) "EchoedRounds$Rules" false := ⟨1, _, _, _, _, by decide, cl_Rules, by decide, rfl, rfl, by decide +kernel, rfl, Or.inl ⟨rfl, wm_31⟩⟩
theorem fd_Rules_18 : er_Fd "EchoedRounds$Rules" 18 2 2 false true (.int) "EchoedRounds$Rules" false := ⟨1, _, _, _, _, by decide, cl_Rules, by decide, rfl, rfl, by decide +kernel, rfl, Or.inl ⟨rfl, wm_33⟩⟩
theorem fd_Rules_21 : er_Fd "EchoedRounds$Rules" 21 2 3 false true (.int) "EchoedRounds$Rules" false := ⟨1, _, _, _, _, by decide, cl_Rules, by decide, rfl, rfl, by decide +kernel, rfl, Or.inl ⟨rfl, wm_34⟩⟩
theorem fd_Log_9 : er_Fd "EchoedRounds$Log" 9 4 0 true true (.array .int) "EchoedRounds$Log" false := ⟨3, _, _, _, _, by decide, cl_Log, by decide, rfl, rfl, by decide +kernel, rfl, Or.inl ⟨rfl, wm_58⟩⟩
theorem fd_Log_15 : er_Fd "EchoedRounds$Log" 15 4 1 false false (.int) "EchoedRounds$Log" false := ⟨3, _, _, _, _, by decide, cl_Log, by decide, rfl, rfl, by decide +kernel, rfl, Or.inl ⟨rfl, wm_59⟩⟩
theorem fd_Tally_9 : er_Fd "EchoedRounds$Tally" 9 5 0 true true (.array .int) "EchoedRounds$Tally" false := ⟨4, _, _, _, _, by decide, cl_Tally, by decide, rfl, rfl, by decide +kernel, rfl, Or.inl ⟨rfl, wm_73⟩⟩
theorem fd_Tally_15 : er_Fd "EchoedRounds$Tally" 15 5 1 true true (.array .int) "EchoedRounds$Tally" false := ⟨4, _, _, _, _, by decide, cl_Tally, by decide, rfl, rfl, by decide +kernel, rfl, Or.inl ⟨rfl, wm_74⟩⟩
theorem fd_Row_9 : er_Fd "EchoedRounds$Row" 9 6 0 true true (.array .int) "EchoedRounds$Row" false := ⟨5, _, _, _, _, by decide, cl_Row, by decide, rfl, rfl, by decide +kernel, rfl, Or.inl ⟨rfl, wm_87⟩⟩
theorem fd_Row_15 : er_Fd "EchoedRounds$Row" 15 6 1 true true (.array .int) "EchoedRounds$Row" false := ⟨5, _, _, _, _, by decide, cl_Row, by decide, rfl, rfl, by decide +kernel, rfl, Or.inl ⟨rfl, wm_88⟩⟩
theorem fd_Row_18 : er_Fd "EchoedRounds$Row" 18 6 2 true true (.array .int) "EchoedRounds$Row" false := ⟨5, _, _, _, _, by decide, cl_Row, by decide, rfl, rfl, by decide +kernel, rfl, Or.inl ⟨rfl, wm_89⟩⟩
theorem fd_Row_21 : er_Fd "EchoedRounds$Row" 21 6 3 false false (.int) "EchoedRounds$Row" false := ⟨5, _, _, _, _, by decide, cl_Row, by decide, rfl, rfl, by decide +kernel, rfl, Or.inl ⟨rfl, wm_91⟩⟩
theorem fd_ER_25 : er_Fd "EchoedRounds" 25 1 0 true true (.array (.object "EchoedRounds$Node")) "EchoedRounds" false := ⟨0, _, _, _, _, by decide, cl_ER, by decide, rfl, rfl, by decide +kernel, rfl, Or.inl ⟨rfl, wm_153⟩⟩
theorem fd_Rules_24 : er_Fd "EchoedRounds$Rules" 24 6 3 false false (.int) "EchoedRounds$Row" true := ⟨5, _, _, _, _, by decide, cl_Row, by decide, rfl, rfl, by decide +kernel, rfl, Or.inr ⟨rfl, "EchoedRounds", wn_92⟩⟩
theorem fd_Rules_58 : er_Fd "EchoedRounds$Rules" 58 6 2 true true (.array .int) "EchoedRounds$Row" true := ⟨5, _, _, _, _, by decide, cl_Row, by decide, rfl, rfl, by decide +kernel, rfl, Or.inr ⟨rfl, "EchoedRounds", wn_90⟩⟩
theorem fd_Mo_44 : er_Fd "EchoedRoundsModel" 44 7 13 true true (.array .int) "EchoedRoundsModel" false := ⟨6, _, _, _, _, by decide, cl_Mo, by decide, rfl, rfl, by decide +kernel, rfl, Or.inl ⟨rfl, wm_391⟩⟩
theorem fd_Mo_50 : er_Fd "EchoedRoundsModel" 50 7 15 true true (.array .int) "EchoedRoundsModel" false := ⟨6, _, _, _, _, by decide, cl_Mo, by decide, rfl, rfl, by decide +kernel, rfl, Or.inl ⟨rfl, wm_393⟩⟩
theorem fd_Mo_59 : er_Fd "EchoedRoundsModel" 59 7 0 false true (.int) "EchoedRoundsModel" false := ⟨6, _, _, _, _, by decide, cl_Mo, by decide, rfl, rfl, by decide +kernel, rfl, Or.inl ⟨rfl, wm_378⟩⟩
theorem fd_Mo_63 : er_Fd "EchoedRoundsModel" 63 7 1 false true (.int) "EchoedRoundsModel" false := ⟨6, _, _, _, _, by decide, cl_Mo, by decide, rfl, rfl, by decide +kernel, rfl, Or.inl ⟨rfl, wm_379⟩⟩
theorem fd_Mo_7 : er_Fd "EchoedRoundsModel" 7 7 2 true true (.array .boolean) "EchoedRoundsModel" false := ⟨6, _, _, _, _, by decide, cl_Mo, by decide, rfl, rfl, by decide +kernel, rfl, Or.inl ⟨rfl, wm_380⟩⟩
theorem fd_Mo_13 : er_Fd "EchoedRoundsModel" 13 7 3 true true (.array .int) "EchoedRoundsModel" false := ⟨6, _, _, _, _, by decide, cl_Mo, by decide, rfl, rfl, by decide +kernel, rfl, Or.inl ⟨rfl, wm_381⟩⟩
theorem fd_Mo_17 : er_Fd "EchoedRoundsModel" 17 7 4 true true (.array .int) "EchoedRoundsModel" false := ⟨6, _, _, _, _, by decide, cl_Mo, by decide, rfl, rfl, by decide +kernel, rfl, Or.inl ⟨rfl, wm_382⟩⟩
theorem fd_Mo_20 : er_Fd "EchoedRoundsModel" 20 7 5 true true (.array .int) "EchoedRoundsModel" false := ⟨6, _, _, _, _, by decide, cl_Mo, by decide, rfl, rfl, by decide +kernel, rfl, Or.inl ⟨rfl, wm_383⟩⟩
theorem fd_Mo_23 : er_Fd "EchoedRoundsModel" 23 7 6 true true (.array .boolean) "EchoedRoundsModel" false := ⟨6, _, _, _, _, by decide, cl_Mo, by decide, rfl, rfl, by decide +kernel, rfl, Or.inl ⟨rfl, wm_384⟩⟩
theorem fd_Mo_26 : er_Fd "EchoedRoundsModel" 26 7 7 true true (.array .boolean) "EchoedRoundsModel" false := ⟨6, _, _, _, _, by decide, cl_Mo, by decide, rfl, rfl, by decide +kernel, rfl, Or.inl ⟨rfl, wm_385⟩⟩
theorem fd_Mo_29 : er_Fd "EchoedRoundsModel" 29 7 8 true true (.array .int) "EchoedRoundsModel" false := ⟨6, _, _, _, _, by decide, cl_Mo, by decide, rfl, rfl, by decide +kernel, rfl, Or.inl ⟨rfl, wm_386⟩⟩
theorem fd_Mo_32 : er_Fd "EchoedRoundsModel" 32 7 9 true true (.array .boolean) "EchoedRoundsModel" false := ⟨6, _, _, _, _, by decide, cl_Mo, by decide, rfl, rfl, by decide +kernel, rfl, Or.inl ⟨rfl, wm_387⟩⟩
theorem fd_Mo_35 : er_Fd "EchoedRoundsModel" 35 7 10 true true (.array .int) "EchoedRoundsModel" false := ⟨6, _, _, _, _, by decide, cl_Mo, by decide, rfl, rfl, by decide +kernel, rfl, Or.inl ⟨rfl, wm_388⟩⟩
theorem fd_Mo_38 : er_Fd "EchoedRoundsModel" 38 7 11 true true (.array .int) "EchoedRoundsModel" false := ⟨6, _, _, _, _, by decide, cl_Mo, by decide, rfl, rfl, by decide +kernel, rfl, Or.inl ⟨rfl, wm_389⟩⟩
theorem fd_Mo_41 : er_Fd "EchoedRoundsModel" 41 7 12 true true (.array .int) "EchoedRoundsModel" false := ⟨6, _, _, _, _, by decide, cl_Mo, by decide, rfl, rfl, by decide +kernel, rfl, Or.inl ⟨rfl, wm_390⟩⟩
theorem fd_Mo_47 : er_Fd "EchoedRoundsModel" 47 7 14 true true (.array .int) "EchoedRoundsModel" false := ⟨6, _, _, _, _, by decide, cl_Mo, by decide, rfl, rfl, by decide +kernel, rfl, Or.inl ⟨rfl, wm_392⟩⟩
theorem fd_Mo_53 : er_Fd "EchoedRoundsModel" 53 7 16 true true (.array .int) "EchoedRoundsModel" false := ⟨6, _, _, _, _, by decide, cl_Mo, by decide, rfl, rfl, by decide +kernel, rfl, Or.inl ⟨rfl, wm_394⟩⟩
theorem fd_Mo_56 : er_Fd "EchoedRoundsModel" 56 7 17 true true (.array .int) "EchoedRoundsModel" false := ⟨6, _, _, _, _, by decide, cl_Mo, by decide, rfl, rfl, by decide +kernel, rfl, Or.inl ⟨rfl, wm_395⟩⟩
theorem fd_Node_38 : er_Fd "EchoedRounds$Node" 38 3 7 true true (.array (.object "EchoedRounds$Row")) "EchoedRounds$Node" false := ⟨2, _, _, _, _, by decide, cl_Node, by decide, rfl, rfl, by decide +kernel, rfl, Or.inl ⟨rfl, wm_114⟩⟩
theorem fd_Node_33 : er_Fd "EchoedRounds$Node" 33 3 6 true true (.array .int) "EchoedRounds$Node" false := ⟨2, _, _, _, _, by decide, cl_Node, by decide, rfl, rfl, by decide +kernel, rfl, Or.inl ⟨rfl, wm_112⟩⟩
theorem fd_Node_12 : er_Fd "EchoedRounds$Node" 12 3 2 true true (.object "EchoedRounds$Log") "EchoedRounds$Node" false := ⟨2, _, _, _, _, by decide, cl_Node, by decide, rfl, rfl, by decide +kernel, rfl, Or.inl ⟨rfl, wm_105⟩⟩
theorem fd_Node_21 : er_Fd "EchoedRounds$Node" 21 3 3 true true (.object "EchoedRounds$Tally") "EchoedRounds$Node" false := ⟨2, _, _, _, _, by decide, cl_Node, by decide, rfl, rfl, by decide +kernel, rfl, Or.inl ⟨rfl, wm_107⟩⟩
theorem fd_Node_25 : er_Fd "EchoedRounds$Node" 25 3 4 true true (.array .int) "EchoedRounds$Node" false := ⟨2, _, _, _, _, by decide, cl_Node, by decide, rfl, rfl, by decide +kernel, rfl, Or.inl ⟨rfl, wm_109⟩⟩
theorem fd_Node_29 : er_Fd "EchoedRounds$Node" 29 3 5 true true (.array .boolean) "EchoedRounds$Node" false := ⟨2, _, _, _, _, by decide, cl_Node, by decide, rfl, rfl, by decide +kernel, rfl, Or.inl ⟨rfl, wm_111⟩⟩
theorem fd_Node_42 : er_Fd "EchoedRounds$Node" 42 3 8 false false (.boolean) "EchoedRounds$Node" false := ⟨2, _, _, _, _, by decide, cl_Node, by decide, rfl, rfl, by decide +kernel, rfl, Or.inl ⟨rfl, wm_116⟩⟩
theorem fd_Node_46 : er_Fd "EchoedRounds$Node" 46 3 9 false false (.int) "EchoedRounds$Node" false := ⟨2, _, _, _, _, by decide, cl_Node, by decide, rfl, rfl, by decide +kernel, rfl, Or.inl ⟨rfl, wm_118⟩⟩
theorem fd_Node_50 : er_Fd "EchoedRounds$Node" 50 3 10 false false (.int) "EchoedRounds$Node" false := ⟨2, _, _, _, _, by decide, cl_Node, by decide, rfl, rfl, by decide +kernel, rfl, Or.inl ⟨rfl, wm_120⟩⟩
theorem fd_Node_53 : er_Fd "EchoedRounds$Node" 53 3 11 false false (.int) "EchoedRounds$Node" false := ⟨2, _, _, _, _, by decide, cl_Node, by decide, rfl, rfl, by decide +kernel, rfl, Or.inl ⟨rfl, wm_122⟩⟩
theorem fd_Node_56 : er_Fd "EchoedRounds$Node" 56 3 12 false false (.int) "EchoedRounds$Node" false := ⟨2, _, _, _, _, by decide, cl_Node, by decide, rfl, rfl, by decide +kernel, rfl, Or.inl ⟨rfl, wm_124⟩⟩
theorem fd_Node_59 : er_Fd "EchoedRounds$Node" 59 3 0 false true (.int) "EchoedRounds$Node" false := ⟨2, _, _, _, _, by decide, cl_Node, by decide, rfl, rfl, by decide +kernel, rfl, Or.inl ⟨rfl, wm_103⟩⟩
theorem fd_Node_62 : er_Fd "EchoedRounds$Node" 62 3 1 true true (.object "EchoedRounds$Rules") "EchoedRounds$Node" false := ⟨2, _, _, _, _, by decide, cl_Node, by decide, rfl, rfl, by decide +kernel, rfl, Or.inl ⟨rfl, wm_104⟩⟩
theorem fd_ER_36 : er_Fd "EchoedRounds" 36 3 8 false false (.boolean) "EchoedRounds$Node" true := ⟨2, _, _, _, _, by decide, cl_Node, by decide, rfl, rfl, by decide +kernel, rfl, Or.inr ⟨rfl, "EchoedRounds", wn_117⟩⟩
theorem fd_ER_60 : er_Fd "EchoedRounds" 60 3 2 true true (.object "EchoedRounds$Log") "EchoedRounds$Node" true := ⟨2, _, _, _, _, by decide, cl_Node, by decide, rfl, rfl, by decide +kernel, rfl, Or.inr ⟨rfl, "EchoedRounds", wn_106⟩⟩
theorem fd_ER_79 : er_Fd "EchoedRounds" 79 4 1 false false (.int) "EchoedRounds$Log" true := ⟨3, _, _, _, _, by decide, cl_Log, by decide, rfl, rfl, by decide +kernel, rfl, Or.inr ⟨rfl, "EchoedRounds", wn_60⟩⟩
theorem fd_ER_88 : er_Fd "EchoedRounds" 88 3 4 true true (.array .int) "EchoedRounds$Node" true := ⟨2, _, _, _, _, by decide, cl_Node, by decide, rfl, rfl, by decide +kernel, rfl, Or.inr ⟨rfl, "EchoedRounds", wn_110⟩⟩
theorem fd_ER_92 : er_Fd "EchoedRounds" 92 3 3 true true (.object "EchoedRounds$Tally") "EchoedRounds$Node" true := ⟨2, _, _, _, _, by decide, cl_Node, by decide, rfl, rfl, by decide +kernel, rfl, Or.inr ⟨rfl, "EchoedRounds", wn_108⟩⟩
theorem fd_ER_105 : er_Fd "EchoedRounds" 105 3 6 true true (.array .int) "EchoedRounds$Node" true := ⟨2, _, _, _, _, by decide, cl_Node, by decide, rfl, rfl, by decide +kernel, rfl, Or.inr ⟨rfl, "EchoedRounds", wn_113⟩⟩
theorem fd_ER_108 : er_Fd "EchoedRounds" 108 3 7 true true (.array (.object "EchoedRounds$Row")) "EchoedRounds$Node" true := ⟨2, _, _, _, _, by decide, cl_Node, by decide, rfl, rfl, by decide +kernel, rfl, Or.inr ⟨rfl, "EchoedRounds", wn_115⟩⟩
theorem fd_ER_44 : er_Fd "EchoedRounds" 44 3 10 false false (.int) "EchoedRounds$Node" true := ⟨2, _, _, _, _, by decide, cl_Node, by decide, rfl, rfl, by decide +kernel, rfl, Or.inr ⟨rfl, "EchoedRounds", wn_121⟩⟩
theorem fd_ER_117 : er_Fd "EchoedRounds" 117 3 11 false false (.int) "EchoedRounds$Node" true := ⟨2, _, _, _, _, by decide, cl_Node, by decide, rfl, rfl, by decide +kernel, rfl, Or.inr ⟨rfl, "EchoedRounds", wn_123⟩⟩
theorem fd_ER_120 : er_Fd "EchoedRounds" 120 3 12 false false (.int) "EchoedRounds$Node" true := ⟨2, _, _, _, _, by decide, cl_Node, by decide, rfl, rfl, by decide +kernel, rfl, Or.inr ⟨rfl, "EchoedRounds", wn_125⟩⟩
theorem fd_ER_40 : er_Fd "EchoedRounds" 40 3 9 false false (.int) "EchoedRounds$Node" true := ⟨2, _, _, _, _, by decide, cl_Node, by decide, rfl, rfl, by decide +kernel, rfl, Or.inr ⟨rfl, "EchoedRounds", wn_119⟩⟩
theorem fd_Node_102 : er_Fd "EchoedRounds$Node" 102 2 3 false true (.int) "EchoedRounds$Rules" true := ⟨1, _, _, _, _, by decide, cl_Rules, by decide, rfl, rfl, by decide +kernel, rfl, Or.inr ⟨rfl, "EchoedRounds", wn_35⟩⟩
theorem fd_Node_110 : er_Fd "EchoedRounds$Node" 110 2 1 false true (.int) "EchoedRounds$Rules" true := ⟨1, _, _, _, _, by decide, cl_Rules, by decide, rfl, rfl, by decide +kernel, rfl, Or.inr ⟨rfl, "EchoedRounds", wn_32⟩⟩
theorem fd_Node_124 : er_Fd "EchoedRounds$Node" 124 2 0 false true (.int) "EchoedRounds$Rules" true := ⟨1, _, _, _, _, by decide, cl_Rules, by decide, rfl, rfl, by decide +kernel, rfl, Or.inr ⟨rfl, "EchoedRounds", wn_30⟩⟩
theorem my_Node_66 : er_MI "EchoedRounds$Node" 66 y_Row_init b_Row_init 1 0 true := ⟨⟨wm_85, wm_7, Or.inr ⟨rfl, "EchoedRounds", wn_83⟩, by decide +kernel⟩, rfl, wm_84⟩
theorem my_Node_20 : er_MI "EchoedRounds$Node" 20 y_Tally_init b_Tally_init 1 0 true := ⟨⟨wm_71, wm_6, Or.inr ⟨rfl, "EchoedRounds", wn_69⟩, by decide +kernel⟩, rfl, wm_70⟩
theorem my_Node_11 : er_MI "EchoedRounds$Node" 11 y_Log_init b_Log_init 1 0 true := ⟨⟨wm_56, wm_5, Or.inr ⟨rfl, "EchoedRounds", wn_54⟩, by decide +kernel⟩, rfl, wm_55⟩
theorem my_ER_57 : er_MV "EchoedRounds" 57 y_ER_isNode b_ER_isNode 2 (some .boolean) 1 false 1 := ⟨⟨wm_168, wm_1, Or.inl ⟨rfl, wm_165⟩, by decide +kernel⟩, wm_167, 0, _, rfl, ⟨by decide, by decide⟩, ws_ER_isNode⟩
theorem my_Node_71 : er_MV "EchoedRounds$Node" 71 y_Log_append b_Log_append 2 (none) 1 true 4 := ⟨⟨wm_190, wm_5, Or.inr ⟨rfl, "EchoedRounds", wn_187⟩, by decide +kernel⟩, wm_189, 3, _, rfl, ⟨by decide, by decide⟩, ws_Log_append⟩
theorem my_Node_67 : er_MS "EchoedRounds$Node" 67 y_ER_codeOf b_ER_codeOf 4 (some .int) 4 true := ⟨⟨wm_186, wm_1, Or.inr ⟨rfl, "EchoedRounds", wn_184⟩, by decide +kernel⟩, wm_185⟩
theorem my_Node_83 : er_MS "EchoedRounds$Node" 83 y_ER_cellOf b_ER_cellOf 2 (some .int) 2 true := ⟨⟨wm_209, wm_1, Or.inr ⟨rfl, "EchoedRounds", wn_207⟩, by decide +kernel⟩, wm_208⟩
theorem my_Rules_33 : er_MV "EchoedRounds$Rules" 33 y_Rules_mostChosen b_Rules_mostChosen 3 (some .int) 2 false 2 := ⟨⟨wm_254, wm_3, Or.inl ⟨rfl, wm_251⟩, by decide +kernel⟩, wm_253, 1, _, rfl, ⟨by decide, by decide⟩, ws_Rules_mostChosen⟩
theorem my_Rules_68 : er_MV "EchoedRounds$Rules" 68 y_Row_countInFirst b_Row_countInFirst 5 (some .int) 2 true 6 := ⟨⟨wm_300, wm_7, Or.inr ⟨rfl, "EchoedRounds", wn_297⟩, by decide +kernel⟩, wm_299, 5, _, rfl, ⟨by decide, by decide⟩, ws_Row_countInFirst⟩
theorem my_Rules_37 : er_MV "EchoedRounds$Rules" 37 y_Rules_isMajority b_Rules_isMajority 2 (some .boolean) 1 false 2 := ⟨⟨wm_259, wm_3, Or.inl ⟨rfl, wm_256⟩, by decide +kernel⟩, wm_258, 1, _, rfl, ⟨by decide, by decide⟩, ws_Rules_isMajority⟩
theorem my_ER_84 : er_MV "EchoedRounds" 84 y_Log_codeAt b_Log_codeAt 2 (some .int) 1 true 4 := ⟨⟨wm_202, wm_5, Or.inr ⟨rfl, "EchoedRounds", wn_334⟩, by decide +kernel⟩, wm_201, 3, _, rfl, ⟨by decide, by decide⟩, ws_Log_codeAt⟩
theorem my_ER_99 : er_MV "EchoedRounds" 99 y_Tally_count b_Tally_count 4 (some .int) 3 true 5 := ⟨⟨wm_221, wm_6, Or.inr ⟨rfl, "EchoedRounds", wn_344⟩, by decide +kernel⟩, wm_220, 4, _, rfl, ⟨by decide, by decide⟩, ws_Tally_count⟩
theorem my_ER_96 : er_MS "EchoedRounds" 96 y_ER_cellOf b_ER_cellOf 2 (some .int) 2 false := ⟨⟨wm_209, wm_1, Or.inl ⟨rfl, wm_343⟩, by decide +kernel⟩, wm_208⟩
theorem my_ER_68 : er_MS "EchoedRounds" 68 y_ER_isSlot b_ER_isSlot 1 (some .boolean) 1 false := ⟨⟨wm_287, wm_1, Or.inl ⟨rfl, wm_323⟩, by decide +kernel⟩, wm_286⟩
theorem my_ER_112 : er_MV "EchoedRounds" 112 y_Row_speakerAt b_Row_speakerAt 2 (some .int) 1 true 6 := ⟨⟨wm_356, wm_7, Or.inr ⟨rfl, "EchoedRounds", wn_353⟩, by decide +kernel⟩, wm_355, 5, _, rfl, ⟨by decide, by decide⟩, ws_Row_speakerAt⟩
theorem my_Mo_66 : er_MV "EchoedRoundsModel" 66 y_Mo_isNode b_Mo_isNode 2 (some .boolean) 1 false 7 := ⟨⟨wm_444, wm_8, Or.inl ⟨rfl, wm_441⟩, by decide +kernel⟩, wm_443, 6, _, rfl, ⟨by decide, by decide⟩, ws_Mo_isNode⟩
theorem my_Mo_70 : er_MS "EchoedRoundsModel" 70 y_Mo_at b_Mo_at 3 (some .int) 3 false := ⟨⟨wm_459, wm_8, Or.inl ⟨rfl, wm_457⟩, by decide +kernel⟩, wm_458⟩
theorem my_Mo_97 : er_MV "EchoedRoundsModel" 97 y_Mo_firmValue b_Mo_firmValue 2 (some .int) 1 false 7 := ⟨⟨wm_503, wm_8, Or.inl ⟨rfl, wm_500⟩, by decide +kernel⟩, wm_502, 6, _, rfl, ⟨by decide, by decide⟩, ws_Mo_firmValue⟩
theorem my_Mo_78 : er_MV "EchoedRoundsModel" 78 y_Mo_count b_Mo_count 8 (some .int) 5 false 7 := ⟨⟨wm_475, wm_8, Or.inl ⟨rfl, wm_472⟩, by decide +kernel⟩, wm_474, 6, _, rfl, ⟨by decide, by decide⟩, ws_Mo_count⟩
theorem my_Mo_122 : er_MS "EchoedRoundsModel" 122 y_Mo_isSlot b_Mo_isSlot 1 (some .boolean) 1 false := ⟨⟨wm_530, wm_8, Or.inl ⟨rfl, wm_528⟩, by decide +kernel⟩, wm_529⟩
theorem my_ER_29 : er_MI "EchoedRounds" 29 y_Node_init b_Node_init 4 2 true := ⟨⟨wm_50, wm_4, Or.inr ⟨rfl, "EchoedRounds", wn_48⟩, by decide +kernel⟩, rfl, wm_49⟩
theorem my_ER_20 : er_MI "EchoedRounds" 20 y_Rules_init b_Rules_init 2 1 true := ⟨⟨wm_27, wm_3, Or.inr ⟨rfl, "EchoedRounds", wn_25⟩, by decide +kernel⟩, rfl, wm_26⟩
theorem my_ER_32 : er_MV "EchoedRounds" 32 y_ER_isWellBehaved b_ER_isWellBehaved 2 (some .boolean) 1 false 1 := ⟨⟨wm_164, wm_1, Or.inl ⟨rfl, wm_161⟩, by decide +kernel⟩, wm_163, 0, _, rfl, ⟨by decide, by decide⟩, ws_ER_isWellBehaved⟩
theorem my_Node_107 : er_MV "EchoedRounds$Node" 107 y_Node_sendReadyOnce b_Node_sendReadyOnce 5 (none) 3 false 3 := ⟨⟨wm_225, wm_4, Or.inl ⟨rfl, wm_222⟩, by decide +kernel⟩, wm_224, 2, _, rfl, ⟨by decide, by decide⟩, ws_Node_sendReadyOnce⟩
theorem my_Node_98 : er_MV "EchoedRounds$Node" 98 y_Tally_count b_Tally_count 4 (some .int) 3 true 5 := ⟨⟨wm_221, wm_6, Or.inr ⟨rfl, "EchoedRounds", wn_218⟩, by decide +kernel⟩, wm_220, 4, _, rfl, ⟨by decide, by decide⟩, ws_Tally_count⟩
theorem my_Rules_55 : er_MV "EchoedRounds$Rules" 55 y_Rules_canNeedToss b_Rules_canNeedToss 4 (some .boolean) 1 false 2 := ⟨⟨wm_276, wm_3, Or.inl ⟨rfl, wm_273⟩, by decide +kernel⟩, wm_275, 1, _, rfl, ⟨by decide, by decide⟩, ws_Rules_canNeedToss⟩
theorem my_Rules_51 : er_MV "EchoedRounds$Rules" 51 y_Rules_canPrevail b_Rules_canPrevail 4 (some .boolean) 2 false 2 := ⟨⟨wm_272, wm_3, Or.inl ⟨rfl, wm_269⟩, by decide +kernel⟩, wm_271, 1, _, rfl, ⟨by decide, by decide⟩, ws_Rules_canPrevail⟩
theorem my_Rules_48 : er_MS "EchoedRounds$Rules" 48 y_ER_isPlain b_ER_isPlain 1 (some .boolean) 1 true := ⟨⟨wm_179, wm_1, Or.inr ⟨rfl, "EchoedRounds", wn_268⟩, by decide +kernel⟩, wm_178⟩
theorem my_Rules_45 : er_MV "EchoedRounds$Rules" 45 y_Rules_canStayDivided b_Rules_canStayDivided 4 (some .boolean) 1 false 2 := ⟨⟨wm_267, wm_3, Or.inl ⟨rfl, wm_264⟩, by decide +kernel⟩, wm_266, 1, _, rfl, ⟨by decide, by decide⟩, ws_Rules_canStayDivided⟩
theorem my_Rules_41 : er_MV "EchoedRounds$Rules" 41 y_Row_holdsWith b_Row_holdsWith 4 (some .boolean) 2 true 6 := ⟨⟨wm_263, wm_7, Or.inr ⟨rfl, "EchoedRounds", wn_260⟩, by decide +kernel⟩, wm_262, 5, _, rfl, ⟨by decide, by decide⟩, ws_Row_holdsWith⟩
theorem my_Rules_29 : er_MV "EchoedRounds$Rules" 29 y_Rules_isFull b_Rules_isFull 2 (some .boolean) 1 false 2 := ⟨⟨wm_250, wm_3, Or.inl ⟨rfl, wm_247⟩, by decide +kernel⟩, wm_249, 1, _, rfl, ⟨by decide, by decide⟩, ws_Rules_isFull⟩
theorem my_Node_168 : er_MV "EchoedRounds$Node" 168 y_Rules_heldFirm b_Rules_heldFirm 4 (some .int) 2 true 2 := ⟨⟨wm_312, wm_3, Or.inr ⟨rfl, "EchoedRounds", wn_309⟩, by decide +kernel⟩, wm_311, 1, _, rfl, ⟨by decide, by decide⟩, ws_Rules_heldFirm⟩
theorem my_Mo_115 : er_MV "EchoedRoundsModel" 115 y_Mo_well b_Mo_well 2 (some .boolean) 1 false 7 := ⟨⟨wm_440, wm_8, Or.inl ⟨rfl, wm_437⟩, by decide +kernel⟩, wm_439, 6, _, rfl, ⟨by decide, by decide⟩, ws_Mo_well⟩
theorem my_Mo_74 : er_MV "EchoedRoundsModel" 74 y_Mo_send b_Mo_send 6 (none) 5 false 7 := ⟨⟨wm_456, wm_8, Or.inl ⟨rfl, wm_453⟩, by decide +kernel⟩, wm_455, 6, _, rfl, ⟨by decide, by decide⟩, ws_Mo_send⟩
theorem my_Mo_86 : er_MV "EchoedRoundsModel" 86 y_Mo_setDoes b_Mo_setDoes 8 (some .boolean) 4 false 7 := ⟨⟨wm_491, wm_8, Or.inl ⟨rfl, wm_488⟩, by decide +kernel⟩, wm_490, 6, _, rfl, ⟨by decide, by decide⟩, ws_Mo_setDoes⟩
theorem my_Mo_101 : er_MV "EchoedRoundsModel" 101 y_Mo_afterFirm b_Mo_afterFirm 5 (some .int) 2 false 7 := ⟨⟨wm_499, wm_8, Or.inl ⟨rfl, wm_496⟩, by decide +kernel⟩, wm_498, 6, _, rfl, ⟨by decide, by decide⟩, ws_Mo_afterFirm⟩
theorem my_Node_95 : er_MV "EchoedRounds$Node" 95 y_Node_hearReady b_Node_hearReady 6 (none) 3 false 3 := ⟨⟨wm_229, wm_4, Or.inl ⟨rfl, wm_226⟩, by decide +kernel⟩, wm_228, 2, _, rfl, ⟨by decide, by decide⟩, ws_Node_hearReady⟩
theorem my_Node_91 : er_MV "EchoedRounds$Node" 91 y_Node_hearEcho b_Node_hearEcho 4 (none) 3 false 3 := ⟨⟨wm_217, wm_4, Or.inl ⟨rfl, wm_214⟩, by decide +kernel⟩, wm_216, 2, _, rfl, ⟨by decide, by decide⟩, ws_Node_hearEcho⟩
theorem my_Node_87 : er_MV "EchoedRounds$Node" 87 y_Tally_countIn b_Tally_countIn 6 (some .boolean) 4 true 5 := ⟨⟨wm_213, wm_6, Or.inr ⟨rfl, "EchoedRounds", wn_210⟩, by decide +kernel⟩, wm_212, 4, _, rfl, ⟨by decide, by decide⟩, ws_Tally_countIn⟩
theorem my_Node_139 : er_MV "EchoedRounds$Node" 139 y_Rules_follows b_Rules_follows 6 (some .boolean) 4 true 2 := ⟨⟨wm_246, wm_3, Or.inr ⟨rfl, "EchoedRounds", wn_243⟩, by decide +kernel⟩, wm_245, 1, _, rfl, ⟨by decide, by decide⟩, ws_Rules_follows⟩
theorem my_Node_136 : er_MS "EchoedRounds$Node" 136 y_ER_isPlain b_ER_isPlain 1 (some .boolean) 1 true := ⟨⟨wm_179, wm_1, Or.inr ⟨rfl, "EchoedRounds", wn_242⟩, by decide +kernel⟩, wm_178⟩
theorem my_Node_132 : er_MV "EchoedRounds$Node" 132 y_Row_holds b_Row_holds 3 (some .boolean) 1 true 6 := ⟨⟨wm_241, wm_7, Or.inr ⟨rfl, "EchoedRounds", wn_238⟩, by decide +kernel⟩, wm_240, 5, _, rfl, ⟨by decide, by decide⟩, ws_Row_holds⟩
theorem my_Node_164 : er_MV "EchoedRounds$Node" 164 y_Node_endRound b_Node_endRound 5 (some .int) 2 false 3 := ⟨⟨wm_308, wm_4, Or.inl ⟨rfl, wm_305⟩, by decide +kernel⟩, wm_307, 2, _, rfl, ⟨by decide, by decide⟩, ws_Node_endRound⟩
theorem my_Node_160 : er_MV "EchoedRounds$Node" 160 y_Rules_firmOr b_Rules_firmOr 4 (some .int) 2 true 2 := ⟨⟨wm_304, wm_3, Or.inr ⟨rfl, "EchoedRounds", wn_301⟩, by decide +kernel⟩, wm_303, 1, _, rfl, ⟨by decide, by decide⟩, ws_Rules_firmOr⟩
theorem my_Node_156 : er_MV "EchoedRounds$Node" 156 y_Rules_prevailing b_Rules_prevailing 2 (some .int) 1 true 2 := ⟨⟨wm_296, wm_3, Or.inr ⟨rfl, "EchoedRounds", wn_293⟩, by decide +kernel⟩, wm_295, 1, _, rfl, ⟨by decide, by decide⟩, ws_Rules_prevailing⟩
theorem my_Mo_82 : er_MV "EchoedRoundsModel" 82 y_Mo_receive b_Mo_receive 11 (some .boolean) 6 false 7 := ⟨⟨wm_471, wm_8, Or.inl ⟨rfl, wm_468⟩, by decide +kernel⟩, wm_470, 6, _, rfl, ⟨by decide, by decide⟩, ws_Mo_receive⟩
theorem my_Mo_90 : er_MV "EchoedRoundsModel" 90 y_Mo_some b_Mo_some 6 (some .boolean) 3 false 7 := ⟨⟨wm_487, wm_8, Or.inl ⟨rfl, wm_484⟩, by decide +kernel⟩, wm_486, 6, _, rfl, ⟨by decide, by decide⟩, ws_Mo_some⟩
theorem my_Node_79 : er_MV "EchoedRounds$Node" 79 y_Node_hear b_Node_hear 7 (some .boolean) 2 false 3 := ⟨⟨wm_206, wm_4, Or.inl ⟨rfl, wm_203⟩, by decide +kernel⟩, wm_205, 2, _, rfl, ⟨by decide, by decide⟩, ws_Node_hear⟩
theorem my_Node_75 : er_MV "EchoedRounds$Node" 75 y_Log_codeAt b_Log_codeAt 2 (some .int) 1 true 4 := ⟨⟨wm_202, wm_5, Or.inr ⟨rfl, "EchoedRounds", wn_199⟩, by decide +kernel⟩, wm_201, 3, _, rfl, ⟨by decide, by decide⟩, ws_Log_codeAt⟩
theorem my_Node_129 : er_MV "EchoedRounds$Node" 129 y_Row_append b_Row_append 3 (none) 2 true 6 := ⟨⟨wm_280, wm_7, Or.inr ⟨rfl, "EchoedRounds", wn_277⟩, by decide +kernel⟩, wm_279, 5, _, rfl, ⟨by decide, by decide⟩, ws_Row_append⟩
theorem my_Node_126 : er_MV "EchoedRounds$Node" 126 y_Node_canBecomeValid b_Node_canBecomeValid 4 (some .boolean) 2 false 3 := ⟨⟨wm_237, wm_4, Or.inl ⟨rfl, wm_234⟩, by decide +kernel⟩, wm_236, 2, _, rfl, ⟨by decide, by decide⟩, ws_Node_canBecomeValid⟩
theorem my_Node_153 : er_MV "EchoedRounds$Node" 153 y_Node_enter b_Node_enter 3 (none) 2 false 3 := ⟨⟨wm_183, wm_4, Or.inl ⟨rfl, wm_313⟩, by decide +kernel⟩, wm_182, 2, _, rfl, ⟨by decide, by decide⟩, ws_Node_enter⟩
theorem my_Node_150 : er_MV "EchoedRounds$Node" 150 y_Node_valueAfter b_Node_valueAfter 4 (some .int) 1 false 3 := ⟨⟨wm_292, wm_4, Or.inl ⟨rfl, wm_289⟩, by decide +kernel⟩, wm_291, 2, _, rfl, ⟨by decide, by decide⟩, ws_Node_valueAfter⟩
theorem my_Node_146 : er_MV "EchoedRounds$Node" 146 y_Rules_isFull b_Rules_isFull 2 (some .boolean) 1 true 2 := ⟨⟨wm_250, wm_3, Or.inr ⟨rfl, "EchoedRounds", wn_288⟩, by decide +kernel⟩, wm_249, 1, _, rfl, ⟨by decide, by decide⟩, ws_Rules_isFull⟩
theorem my_Node_143 : er_MS "EchoedRounds$Node" 143 y_ER_isSlot b_ER_isSlot 1 (some .boolean) 1 true := ⟨⟨wm_287, wm_1, Or.inr ⟨rfl, "EchoedRounds", wn_285⟩, by decide +kernel⟩, wm_286⟩
theorem my_Mo_94 : er_MV "EchoedRoundsModel" 94 y_Mo_can b_Mo_can 6 (some .boolean) 3 false 7 := ⟨⟨wm_483, wm_8, Or.inl ⟨rfl, wm_480⟩, by decide +kernel⟩, wm_482, 6, _, rfl, ⟨by decide, by decide⟩, ws_Mo_can⟩
theorem my_Node_121 : er_MV "EchoedRounds$Node" 121 y_Node_goOn b_Node_goOn 1 (some .boolean) 0 false 3 := ⟨⟨wm_284, wm_4, Or.inl ⟨rfl, wm_281⟩, by decide +kernel⟩, wm_283, 2, _, rfl, ⟨by decide, by decide⟩, ws_Node_goOn⟩
theorem my_Node_117 : er_MV "EchoedRounds$Node" 117 y_Node_makeOneValid b_Node_makeOneValid 3 (some .boolean) 0 false 3 := ⟨⟨wm_233, wm_4, Or.inl ⟨rfl, wm_230⟩, by decide +kernel⟩, wm_232, 2, _, rfl, ⟨by decide, by decide⟩, ws_Node_makeOneValid⟩
theorem my_Node_113 : er_MV "EchoedRounds$Node" 113 y_Node_hearNextOf b_Node_hearNextOf 4 (some .boolean) 2 false 3 := ⟨⟨wm_198, wm_4, Or.inl ⟨rfl, wm_195⟩, by decide +kernel⟩, wm_197, 2, _, rfl, ⟨by decide, by decide⟩, ws_Node_hearNextOf⟩
theorem my_Mo_112 : er_MV "EchoedRoundsModel" 112 y_Mo_goOn b_Mo_goOn 6 (some .boolean) 1 false 7 := ⟨⟨wm_495, wm_8, Or.inl ⟨rfl, wm_492⟩, by decide +kernel⟩, wm_494, 6, _, rfl, ⟨by decide, by decide⟩, ws_Mo_goOn⟩
theorem my_Mo_109 : er_MV "EchoedRoundsModel" 109 y_Mo_validate b_Mo_validate 4 (some .boolean) 1 false 7 := ⟨⟨wm_479, wm_8, Or.inl ⟨rfl, wm_476⟩, by decide +kernel⟩, wm_478, 6, _, rfl, ⟨by decide, by decide⟩, ws_Mo_validate⟩
theorem my_Mo_105 : er_MV "EchoedRoundsModel" 105 y_Mo_receiveFromLog b_Mo_receiveFromLog 4 (none) 2 false 7 := ⟨⟨wm_467, wm_8, Or.inl ⟨rfl, wm_464⟩, by decide +kernel⟩, wm_466, 6, _, rfl, ⟨by decide, by decide⟩, ws_Mo_receiveFromLog⟩
theorem my_ER_54 : er_MV "EchoedRounds" 54 y_Node_settle b_Node_settle 2 (none) 0 true 3 := ⟨⟨wm_194, wm_4, Or.inr ⟨rfl, "EchoedRounds", wn_191⟩, by decide +kernel⟩, wm_193, 2, _, rfl, ⟨by decide, by decide⟩, ws_Node_settle⟩
theorem my_ER_50 : er_MV "EchoedRounds" 50 y_Node_enter b_Node_enter 3 (none) 2 true 3 := ⟨⟨wm_183, wm_4, Or.inr ⟨rfl, "EchoedRounds", wn_180⟩, by decide +kernel⟩, wm_182, 2, _, rfl, ⟨by decide, by decide⟩, ws_Node_enter⟩
theorem my_ER_47 : er_MS "EchoedRounds" 47 y_ER_isPlain b_ER_isPlain 1 (some .boolean) 1 false := ⟨⟨wm_179, wm_1, Or.inl ⟨rfl, wm_177⟩, by decide +kernel⟩, wm_178⟩
theorem my_ER_64 : er_MV "EchoedRounds" 64 y_Node_hearNextOf b_Node_hearNextOf 4 (some .boolean) 2 true 3 := ⟨⟨wm_198, wm_4, Or.inr ⟨rfl, "EchoedRounds", wn_318⟩, by decide +kernel⟩, wm_197, 2, _, rfl, ⟨by decide, by decide⟩, ws_Node_hearNextOf⟩
theorem my_ER_75 : er_MV "EchoedRounds" 75 y_Node_hear b_Node_hear 7 (some .boolean) 2 true 3 := ⟨⟨wm_206, wm_4, Or.inr ⟨rfl, "EchoedRounds", wn_325⟩, by decide +kernel⟩, wm_205, 2, _, rfl, ⟨by decide, by decide⟩, ws_Node_hear⟩
theorem my_ER_71 : er_MS "EchoedRounds" 71 y_ER_codeOf b_ER_codeOf 4 (some .int) 4 false := ⟨⟨wm_186, wm_1, Or.inl ⟨rfl, wm_324⟩, by decide +kernel⟩, wm_185⟩
theorem my_Mo_118 : er_MV "EchoedRoundsModel" 118 y_Mo_settle b_Mo_settle 4 (none) 1 false 7 := ⟨⟨wm_463, wm_8, Or.inl ⟨rfl, wm_460⟩, by decide +kernel⟩, wm_462, 6, _, rfl, ⟨by decide, by decide⟩, ws_Mo_settle⟩
theorem my_Law_63 : er_MV "EchoedRoundsLaw" 63 y_Mo_votes b_Mo_votes 6 (some .int) 5 false 7 := ⟨⟨wm_527, wm_8, Or.inl ⟨rfl, wm_524⟩, by decide +kernel⟩, wm_525, 6, _, rfl, ⟨by decide, by decide⟩, wm_526⟩
theorem my_Law_59 : er_MV "EchoedRoundsLaw" 59 y_ER_votes b_ER_votes 6 (some .int) 5 false 1 := ⟨⟨wm_342, wm_1, Or.inl ⟨rfl, wm_339⟩, by decide +kernel⟩, wm_340, 0, _, rfl, ⟨by decide, by decide⟩, wm_341⟩
theorem my_Law_25 : er_MV "EchoedRoundsLaw" 25 y_Mo_corrupt b_Mo_corrupt 2 (some .boolean) 1 false 7 := ⟨⟨wm_436, wm_8, Or.inl ⟨rfl, wm_433⟩, by decide +kernel⟩, wm_434, 6, _, rfl, ⟨by decide, by decide⟩, wm_435⟩
theorem my_Law_21 : er_MV "EchoedRoundsLaw" 21 y_ER_corrupt b_ER_corrupt 2 (some .boolean) 1 false 1 := ⟨⟨wm_160, wm_1, Or.inl ⟨rfl, wm_157⟩, by decide +kernel⟩, wm_158, 0, _, rfl, ⟨by decide, by decide⟩, wm_159⟩
theorem my_Law_30 : er_MV "EchoedRoundsLaw" 30 y_Mo_tosses b_Mo_tosses 3 (some .boolean) 2 false 7 := ⟨⟨wm_448, wm_8, Or.inl ⟨rfl, wm_445⟩, by decide +kernel⟩, wm_446, 6, _, rfl, ⟨by decide, by decide⟩, wm_447⟩
theorem my_Law_26 : er_MV "EchoedRoundsLaw" 26 y_ER_tosses b_ER_tosses 3 (some .boolean) 2 false 1 := ⟨⟨wm_172, wm_1, Or.inl ⟨rfl, wm_169⟩, by decide +kernel⟩, wm_170, 0, _, rfl, ⟨by decide, by decide⟩, wm_171⟩
theorem my_Law_34 : er_MV "EchoedRoundsLaw" 34 y_Mo_start b_Mo_start 3 (some .boolean) 2 false 7 := ⟨⟨wm_452, wm_8, Or.inl ⟨rfl, wm_449⟩, by decide +kernel⟩, wm_450, 6, _, rfl, ⟨by decide, by decide⟩, wm_451⟩
theorem my_Law_31 : er_MV "EchoedRoundsLaw" 31 y_ER_start b_ER_start 3 (some .boolean) 2 false 1 := ⟨⟨wm_176, wm_1, Or.inl ⟨rfl, wm_173⟩, by decide +kernel⟩, wm_174, 0, _, rfl, ⟨by decide, by decide⟩, wm_175⟩
theorem my_Law_39 : er_MV "EchoedRoundsLaw" 39 y_Mo_pass b_Mo_pass 5 (some .int) 3 false 7 := ⟨⟨wm_507, wm_8, Or.inl ⟨rfl, wm_504⟩, by decide +kernel⟩, wm_505, 6, _, rfl, ⟨by decide, by decide⟩, wm_506⟩
theorem my_Law_35 : er_MV "EchoedRoundsLaw" 35 y_ER_pass b_ER_pass 5 (some .int) 3 false 1 := ⟨⟨wm_317, wm_1, Or.inl ⟨rfl, wm_314⟩, by decide +kernel⟩, wm_315, 0, _, rfl, ⟨by decide, by decide⟩, wm_316⟩
theorem my_Law_44 : er_MV "EchoedRoundsLaw" 44 y_Mo_forge b_Mo_forge 7 (some .boolean) 5 false 7 := ⟨⟨wm_511, wm_8, Or.inl ⟨rfl, wm_508⟩, by decide +kernel⟩, wm_509, 6, _, rfl, ⟨by decide, by decide⟩, wm_510⟩
theorem my_Law_40 : er_MV "EchoedRoundsLaw" 40 y_ER_forge b_ER_forge 7 (some .boolean) 5 false 1 := ⟨⟨wm_322, wm_1, Or.inl ⟨rfl, wm_319⟩, by decide +kernel⟩, wm_320, 0, _, rfl, ⟨by decide, by decide⟩, wm_321⟩
theorem my_Law_49 : er_MV "EchoedRoundsLaw" 49 y_Mo_sent b_Mo_sent 2 (some .int) 1 false 7 := ⟨⟨wm_515, wm_8, Or.inl ⟨rfl, wm_512⟩, by decide +kernel⟩, wm_513, 6, _, rfl, ⟨by decide, by decide⟩, wm_514⟩
theorem my_Law_45 : er_MV "EchoedRoundsLaw" 45 y_ER_sent b_ER_sent 2 (some .int) 1 false 1 := ⟨⟨wm_329, wm_1, Or.inl ⟨rfl, wm_326⟩, by decide +kernel⟩, wm_327, 0, _, rfl, ⟨by decide, by decide⟩, wm_328⟩
theorem my_Law_54 : er_MV "EchoedRoundsLaw" 54 y_Mo_message b_Mo_message 3 (some .int) 2 false 7 := ⟨⟨wm_519, wm_8, Or.inl ⟨rfl, wm_516⟩, by decide +kernel⟩, wm_517, 6, _, rfl, ⟨by decide, by decide⟩, wm_518⟩
theorem my_Law_50 : er_MV "EchoedRoundsLaw" 50 y_ER_message b_ER_message 3 (some .int) 2 false 1 := ⟨⟨wm_333, wm_1, Or.inl ⟨rfl, wm_330⟩, by decide +kernel⟩, wm_331, 0, _, rfl, ⟨by decide, by decide⟩, wm_332⟩
theorem my_Law_58 : er_MV "EchoedRoundsLaw" 58 y_Mo_waiting b_Mo_waiting 3 (some .int) 2 false 7 := ⟨⟨wm_523, wm_8, Or.inl ⟨rfl, wm_520⟩, by decide +kernel⟩, wm_521, 6, _, rfl, ⟨by decide, by decide⟩, wm_522⟩
theorem my_Law_55 : er_MV "EchoedRoundsLaw" 55 y_ER_waiting b_ER_waiting 3 (some .int) 2 false 1 := ⟨⟨wm_338, wm_1, Or.inl ⟨rfl, wm_335⟩, by decide +kernel⟩, wm_336, 0, _, rfl, ⟨by decide, by decide⟩, wm_337⟩
theorem my_Law_67 : er_MV "EchoedRoundsLaw" 67 y_Mo_accepted b_Mo_accepted 4 (some .int) 3 false 7 := ⟨⟨wm_534, wm_8, Or.inl ⟨rfl, wm_531⟩, by decide +kernel⟩, wm_532, 6, _, rfl, ⟨by decide, by decide⟩, wm_533⟩
theorem my_Law_64 : er_MV "EchoedRoundsLaw" 64 y_ER_accepted b_ER_accepted 4 (some .int) 3 false 1 := ⟨⟨wm_348, wm_1, Or.inl ⟨rfl, wm_345⟩, by decide +kernel⟩, wm_346, 0, _, rfl, ⟨by decide, by decide⟩, wm_347⟩
theorem my_Law_71 : er_MV "EchoedRoundsLaw" 71 y_Mo_rowAt b_Mo_rowAt 4 (some .int) 3 false 7 := ⟨⟨wm_538, wm_8, Or.inl ⟨rfl, wm_535⟩, by decide +kernel⟩, wm_536, 6, _, rfl, ⟨by decide, by decide⟩, wm_537⟩
theorem my_Law_68 : er_MV "EchoedRoundsLaw" 68 y_ER_rowAt b_ER_rowAt 4 (some .int) 3 false 1 := ⟨⟨wm_352, wm_1, Or.inl ⟨rfl, wm_349⟩, by decide +kernel⟩, wm_350, 0, _, rfl, ⟨by decide, by decide⟩, wm_351⟩
theorem my_Law_75 : er_MV "EchoedRoundsLaw" 75 y_Mo_slot b_Mo_slot 2 (some .int) 1 false 7 := ⟨⟨wm_542, wm_8, Or.inl ⟨rfl, wm_539⟩, by decide +kernel⟩, wm_540, 6, _, rfl, ⟨by decide, by decide⟩, wm_541⟩
theorem my_Law_72 : er_MV "EchoedRoundsLaw" 72 y_ER_slot b_ER_slot 2 (some .int) 1 false 1 := ⟨⟨wm_360, wm_1, Or.inl ⟨rfl, wm_357⟩, by decide +kernel⟩, wm_358, 0, _, rfl, ⟨by decide, by decide⟩, wm_359⟩
theorem my_Law_79 : er_MV "EchoedRoundsLaw" 79 y_Mo_value b_Mo_value 2 (some .int) 1 false 7 := ⟨⟨wm_546, wm_8, Or.inl ⟨rfl, wm_543⟩, by decide +kernel⟩, wm_544, 6, _, rfl, ⟨by decide, by decide⟩, wm_545⟩
theorem my_Law_76 : er_MV "EchoedRoundsLaw" 76 y_ER_value b_ER_value 2 (some .int) 1 false 1 := ⟨⟨wm_364, wm_1, Or.inl ⟨rfl, wm_361⟩, by decide +kernel⟩, wm_362, 0, _, rfl, ⟨by decide, by decide⟩, wm_363⟩
theorem my_Law_83 : er_MV "EchoedRoundsLaw" 83 y_Mo_decided b_Mo_decided 2 (some .int) 1 false 7 := ⟨⟨wm_550, wm_8, Or.inl ⟨rfl, wm_547⟩, by decide +kernel⟩, wm_548, 6, _, rfl, ⟨by decide, by decide⟩, wm_549⟩
theorem my_Law_80 : er_MV "EchoedRoundsLaw" 80 y_ER_decided b_ER_decided 2 (some .int) 1 false 1 := ⟨⟨wm_368, wm_1, Or.inl ⟨rfl, wm_365⟩, by decide +kernel⟩, wm_366, 0, _, rfl, ⟨by decide, by decide⟩, wm_367⟩
theorem my_Law_20 : er_MI "EchoedRoundsLaw" 20 y_Mo_init b_Mo_init 3 1 false := ⟨⟨wm_376, wm_8, Or.inl ⟨rfl, wm_374⟩, by decide +kernel⟩, rfl, wm_375⟩
theorem my_Law_9 : er_MS "EchoedRoundsLaw" 9 y_Law_cell b_Law_cell 2 (some .int) 2 false := ⟨⟨wm_371, wm_0, Or.inl ⟨rfl, wm_369⟩, by decide +kernel⟩, wm_370⟩
theorem my_Law_15 : er_MI "EchoedRoundsLaw" 15 y_ER_init b_ER_init 5 1 false := ⟨⟨wm_13, wm_1, Or.inl ⟨rfl, wm_11⟩, by decide +kernel⟩, rfl, wm_12⟩
end
section
theorem d_Rules_init_0 : decode b_Rules_init 0 = .ok (.aload_n 0, 1) := by decide +kernel
theorem d_Rules_init_1 : decode b_Rules_init 1 = .ok (.invokespecial 3, 3) := by decide +kernel
theorem d_Rules_init_4 : decode b_Rules_init 4 = .ok (.aload_n 0, 1) := by decide +kernel
theorem d_Rules_init_5 : decode b_Rules_init 5 = .ok (.iload_n 1, 1) := by decide +kernel
theorem d_Rules_init_6 : decode b_Rules_init 6 = .ok (.putfield 9, 3) := by decide +kernel
theorem d_Rules_init_9 : decode b_Rules_init 9 = .ok (.aload_n 0, 1) := by decide +kernel
theorem d_Rules_init_10 : decode b_Rules_init 10 = .ok (.iload_n 1, 1) := by decide +kernel
theorem d_Rules_init_11 : decode b_Rules_init 11 = .ok (.iconst 1, 1) := by decide +kernel
theorem d_Rules_init_12 : decode b_Rules_init 12 = .ok (.isub, 1) := by decide +kernel
theorem d_Rules_init_13 : decode b_Rules_init 13 = .ok (.iconst 3, 1) := by decide +kernel
theorem d_Rules_init_14 : decode b_Rules_init 14 = .ok (.idiv, 1) := by decide +kernel
theorem d_Rules_init_15 : decode b_Rules_init 15 = .ok (.putfield 15, 3) := by decide +kernel
theorem d_Rules_init_18 : decode b_Rules_init 18 = .ok (.aload_n 0, 1) := by decide +kernel
theorem d_Rules_init_19 : decode b_Rules_init 19 = .ok (.iload_n 1, 1) := by decide +kernel
theorem d_Rules_init_20 : decode b_Rules_init 20 = .ok (.aload_n 0, 1) := by decide +kernel
theorem d_Rules_init_21 : decode b_Rules_init 21 = .ok (.getfield 15, 3) := by decide +kernel
theorem d_Rules_init_24 : decode b_Rules_init 24 = .ok (.isub, 1) := by decide +kernel
theorem d_Rules_init_25 : decode b_Rules_init 25 = .ok (.putfield 18, 3) := by decide +kernel
theorem d_Rules_init_28 : decode b_Rules_init 28 = .ok (.aload_n 0, 1) := by decide +kernel
theorem d_Rules_init_29 : decode b_Rules_init 29 = .ok (.iload_n 1, 1) := by decide +kernel
theorem d_Rules_init_30 : decode b_Rules_init 30 = .ok (.aload_n 0, 1) := by decide +kernel
theorem d_Rules_init_31 : decode b_Rules_init 31 = .ok (.getfield 15, 3) := by decide +kernel
theorem d_Rules_init_34 : decode b_Rules_init 34 = .ok (.iadd, 1) := by decide +kernel
theorem d_Rules_init_35 : decode b_Rules_init 35 = .ok (.iconst 2, 1) := by decide +kernel
theorem d_Rules_init_36 : decode b_Rules_init 36 = .ok (.idiv, 1) := by decide +kernel
theorem d_Rules_init_37 : decode b_Rules_init 37 = .ok (.iconst 1, 1) := by decide +kernel
theorem d_Rules_init_38 : decode b_Rules_init 38 = .ok (.iadd, 1) := by decide +kernel
theorem d_Rules_init_39 : decode b_Rules_init 39 = .ok (.putfield 21, 3) := by decide +kernel
theorem d_Rules_init_42 : decode b_Rules_init 42 = .ok (.return_, 1) := by decide +kernel
theorem d_Log_init_0 : decode b_Log_init 0 = .ok (.aload_n 0, 1) := by decide +kernel
theorem d_Log_init_1 : decode b_Log_init 1 = .ok (.invokespecial 3, 3) := by decide +kernel
theorem d_Log_init_4 : decode b_Log_init 4 = .ok (.aload_n 0, 1) := by decide +kernel
theorem d_Log_init_5 : decode b_Log_init 5 = .ok (.sipush 135, 3) := by decide +kernel
theorem d_Log_init_8 : decode b_Log_init 8 = .ok (.newarray .int, 2) := by decide +kernel
theorem d_Log_init_10 : decode b_Log_init 10 = .ok (.putfield 9, 3) := by decide +kernel
theorem d_Log_init_13 : decode b_Log_init 13 = .ok (.aload_n 0, 1) := by decide +kernel
theorem d_Log_init_14 : decode b_Log_init 14 = .ok (.iconst 0, 1) := by decide +kernel
theorem d_Log_init_15 : decode b_Log_init 15 = .ok (.putfield 15, 3) := by decide +kernel
theorem d_Log_init_18 : decode b_Log_init 18 = .ok (.return_, 1) := by decide +kernel
theorem d_Tally_init_0 : decode b_Tally_init 0 = .ok (.aload_n 0, 1) := by decide +kernel
theorem d_Tally_init_1 : decode b_Tally_init 1 = .ok (.invokespecial 3, 3) := by decide +kernel
theorem d_Tally_init_4 : decode b_Tally_init 4 = .ok (.aload_n 0, 1) := by decide +kernel
theorem d_Tally_init_5 : decode b_Tally_init 5 = .ok (.sipush 189, 3) := by decide +kernel
theorem d_Tally_init_8 : decode b_Tally_init 8 = .ok (.newarray .int, 2) := by decide +kernel
theorem d_Tally_init_10 : decode b_Tally_init 10 = .ok (.putfield 9, 3) := by decide +kernel
theorem d_Tally_init_13 : decode b_Tally_init 13 = .ok (.aload_n 0, 1) := by decide +kernel
theorem d_Tally_init_14 : decode b_Tally_init 14 = .ok (.sipush 756, 3) := by decide +kernel
theorem d_Tally_init_17 : decode b_Tally_init 17 = .ok (.newarray .int, 2) := by decide +kernel
theorem d_Tally_init_19 : decode b_Tally_init 19 = .ok (.putfield 15, 3) := by decide +kernel
theorem d_Tally_init_22 : decode b_Tally_init 22 = .ok (.return_, 1) := by decide +kernel
theorem d_Row_init_0 : decode b_Row_init 0 = .ok (.aload_n 0, 1) := by decide +kernel
theorem d_Row_init_1 : decode b_Row_init 1 = .ok (.invokespecial 3, 3) := by decide +kernel
theorem d_Row_init_4 : decode b_Row_init 4 = .ok (.aload_n 0, 1) := by decide +kernel
theorem d_Row_init_5 : decode b_Row_init 5 = .ok (.bipush 7, 2) := by decide +kernel
theorem d_Row_init_7 : decode b_Row_init 7 = .ok (.newarray .int, 2) := by decide +kernel
theorem d_Row_init_9 : decode b_Row_init 9 = .ok (.putfield 9, 3) := by decide +kernel
theorem d_Row_init_12 : decode b_Row_init 12 = .ok (.aload_n 0, 1) := by decide +kernel
theorem d_Row_init_13 : decode b_Row_init 13 = .ok (.bipush 7, 2) := by decide +kernel
theorem d_Row_init_15 : decode b_Row_init 15 = .ok (.newarray .int, 2) := by decide +kernel
theorem d_Row_init_17 : decode b_Row_init 17 = .ok (.putfield 15, 3) := by decide +kernel
theorem d_Row_init_20 : decode b_Row_init 20 = .ok (.aload_n 0, 1) := by decide +kernel
theorem d_Row_init_21 : decode b_Row_init 21 = .ok (.iconst 4, 1) := by decide +kernel
theorem d_Row_init_22 : decode b_Row_init 22 = .ok (.newarray .int, 2) := by decide +kernel
theorem d_Row_init_24 : decode b_Row_init 24 = .ok (.putfield 18, 3) := by decide +kernel
theorem d_Row_init_27 : decode b_Row_init 27 = .ok (.aload_n 0, 1) := by decide +kernel
theorem d_Row_init_28 : decode b_Row_init 28 = .ok (.iconst 0, 1) := by decide +kernel
theorem d_Row_init_29 : decode b_Row_init 29 = .ok (.putfield 21, 3) := by decide +kernel
theorem d_Row_init_32 : decode b_Row_init 32 = .ok (.return_, 1) := by decide +kernel
theorem d_ER_isPlain_0 : decode b_ER_isPlain 0 = .ok (.iload_n 0, 1) := by decide +kernel
theorem d_ER_isPlain_1 : decode b_ER_isPlain 1 = .ok (.ifCond .eq 8, 3) := by decide +kernel
theorem d_ER_isPlain_4 : decode b_ER_isPlain 4 = .ok (.iload_n 0, 1) := by decide +kernel
theorem d_ER_isPlain_5 : decode b_ER_isPlain 5 = .ok (.iconst 1, 1) := by decide +kernel
theorem d_ER_isPlain_6 : decode b_ER_isPlain 6 = .ok (.if_icmp .ne 7, 3) := by decide +kernel
theorem d_ER_isPlain_9 : decode b_ER_isPlain 9 = .ok (.iconst 1, 1) := by decide +kernel
theorem d_ER_isPlain_10 : decode b_ER_isPlain 10 = .ok (.goto 4, 3) := by decide +kernel
theorem d_ER_isPlain_13 : decode b_ER_isPlain 13 = .ok (.iconst 0, 1) := by decide +kernel
theorem d_ER_isPlain_14 : decode b_ER_isPlain 14 = .ok (.ireturn, 1) := by decide +kernel
theorem d_ER_codeOf_0 : decode b_ER_codeOf 0 = .ok (.sipush 1000, 3) := by decide +kernel
theorem d_ER_codeOf_3 : decode b_ER_codeOf 3 = .ok (.iload_n 1, 1) := by decide +kernel
theorem d_ER_codeOf_4 : decode b_ER_codeOf 4 = .ok (.imul, 1) := by decide +kernel
theorem d_ER_codeOf_5 : decode b_ER_codeOf 5 = .ok (.bipush 100, 2) := by decide +kernel
theorem d_ER_codeOf_7 : decode b_ER_codeOf 7 = .ok (.iload_n 2, 1) := by decide +kernel
theorem d_ER_codeOf_8 : decode b_ER_codeOf 8 = .ok (.imul, 1) := by decide +kernel
theorem d_ER_codeOf_9 : decode b_ER_codeOf 9 = .ok (.iadd, 1) := by decide +kernel
theorem d_ER_codeOf_10 : decode b_ER_codeOf 10 = .ok (.bipush 10, 2) := by decide +kernel
theorem d_ER_codeOf_12 : decode b_ER_codeOf 12 = .ok (.iload_n 0, 1) := by decide +kernel
theorem d_ER_codeOf_13 : decode b_ER_codeOf 13 = .ok (.imul, 1) := by decide +kernel
theorem d_ER_codeOf_14 : decode b_ER_codeOf 14 = .ok (.iadd, 1) := by decide +kernel
theorem d_ER_codeOf_15 : decode b_ER_codeOf 15 = .ok (.iload_n 3, 1) := by decide +kernel
theorem d_ER_codeOf_16 : decode b_ER_codeOf 16 = .ok (.iadd, 1) := by decide +kernel
theorem d_ER_codeOf_17 : decode b_ER_codeOf 17 = .ok (.ireturn, 1) := by decide +kernel
theorem d_Log_append_0 : decode b_Log_append 0 = .ok (.aload_n 0, 1) := by decide +kernel
theorem d_Log_append_1 : decode b_Log_append 1 = .ok (.getfield 15, 3) := by decide +kernel
theorem d_Log_append_4 : decode b_Log_append 4 = .ok (.aload_n 0, 1) := by decide +kernel
theorem d_Log_append_5 : decode b_Log_append 5 = .ok (.getfield 9, 3) := by decide +kernel
theorem d_Log_append_8 : decode b_Log_append 8 = .ok (.arraylength, 1) := by decide +kernel
theorem d_Log_append_9 : decode b_Log_append 9 = .ok (.if_icmp .ge 23, 3) := by decide +kernel
theorem d_Log_append_12 : decode b_Log_append 12 = .ok (.aload_n 0, 1) := by decide +kernel
theorem d_Log_append_13 : decode b_Log_append 13 = .ok (.getfield 9, 3) := by decide +kernel
theorem d_Log_append_16 : decode b_Log_append 16 = .ok (.aload_n 0, 1) := by decide +kernel
theorem d_Log_append_17 : decode b_Log_append 17 = .ok (.getfield 15, 3) := by decide +kernel
theorem d_Log_append_20 : decode b_Log_append 20 = .ok (.iload_n 1, 1) := by decide +kernel
theorem d_Log_append_21 : decode b_Log_append 21 = .ok (.iastore, 1) := by decide +kernel
theorem d_Log_append_22 : decode b_Log_append 22 = .ok (.aload_n 0, 1) := by decide +kernel
theorem d_Log_append_23 : decode b_Log_append 23 = .ok (.dup, 1) := by decide +kernel
theorem d_Log_append_24 : decode b_Log_append 24 = .ok (.getfield 15, 3) := by decide +kernel
theorem d_Log_append_27 : decode b_Log_append 27 = .ok (.iconst 1, 1) := by decide +kernel
theorem d_Log_append_28 : decode b_Log_append 28 = .ok (.iadd, 1) := by decide +kernel
theorem d_Log_append_29 : decode b_Log_append 29 = .ok (.putfield 15, 3) := by decide +kernel
theorem d_Log_append_32 : decode b_Log_append 32 = .ok (.return_, 1) := by decide +kernel
theorem d_Log_codeAt_0 : decode b_Log_codeAt 0 = .ok (.iload_n 1, 1) := by decide +kernel
theorem d_Log_codeAt_1 : decode b_Log_codeAt 1 = .ok (.ifCond .lt 20, 3) := by decide +kernel
theorem d_Log_codeAt_4 : decode b_Log_codeAt 4 = .ok (.iload_n 1, 1) := by decide +kernel
theorem d_Log_codeAt_5 : decode b_Log_codeAt 5 = .ok (.aload_n 0, 1) := by decide +kernel
theorem d_Log_codeAt_6 : decode b_Log_codeAt 6 = .ok (.getfield 15, 3) := by decide +kernel
theorem d_Log_codeAt_9 : decode b_Log_codeAt 9 = .ok (.if_icmp .ge 12, 3) := by decide +kernel
theorem d_Log_codeAt_12 : decode b_Log_codeAt 12 = .ok (.aload_n 0, 1) := by decide +kernel
theorem d_Log_codeAt_13 : decode b_Log_codeAt 13 = .ok (.getfield 9, 3) := by decide +kernel
theorem d_Log_codeAt_16 : decode b_Log_codeAt 16 = .ok (.iload_n 1, 1) := by decide +kernel
theorem d_Log_codeAt_17 : decode b_Log_codeAt 17 = .ok (.iaload, 1) := by decide +kernel
theorem d_Log_codeAt_18 : decode b_Log_codeAt 18 = .ok (.goto 4, 3) := by decide +kernel
theorem d_Log_codeAt_21 : decode b_Log_codeAt 21 = .ok (.iconst (-1), 1) := by decide +kernel
theorem d_Log_codeAt_22 : decode b_Log_codeAt 22 = .ok (.ireturn, 1) := by decide +kernel
theorem d_ER_cellOf_0 : decode b_ER_cellOf 0 = .ok (.iload_n 0, 1) := by decide +kernel
theorem d_ER_cellOf_1 : decode b_ER_cellOf 1 = .ok (.bipush 7, 2) := by decide +kernel
theorem d_ER_cellOf_3 : decode b_ER_cellOf 3 = .ok (.imul, 1) := by decide +kernel
theorem d_ER_cellOf_4 : decode b_ER_cellOf 4 = .ok (.iload_n 1, 1) := by decide +kernel
theorem d_ER_cellOf_5 : decode b_ER_cellOf 5 = .ok (.iadd, 1) := by decide +kernel
theorem d_ER_cellOf_6 : decode b_ER_cellOf 6 = .ok (.ireturn, 1) := by decide +kernel
theorem d_Tally_countIn_0 : decode b_Tally_countIn 0 = .ok (.iload_n 2, 1) := by decide +kernel
theorem d_Tally_countIn_1 : decode b_Tally_countIn 1 = .ok (.bipush 63, 2) := by decide +kernel
theorem d_Tally_countIn_3 : decode b_Tally_countIn 3 = .ok (.imul, 1) := by decide +kernel
theorem d_Tally_countIn_4 : decode b_Tally_countIn 4 = .ok (.iload_n 3, 1) := by decide +kernel
theorem d_Tally_countIn_5 : decode b_Tally_countIn 5 = .ok (.iadd, 1) := by decide +kernel
theorem d_Tally_countIn_6 : decode b_Tally_countIn 6 = .ok (.istore 5, 2) := by decide +kernel
theorem d_Tally_countIn_8 : decode b_Tally_countIn 8 = .ok (.aload_n 0, 1) := by decide +kernel
theorem d_Tally_countIn_9 : decode b_Tally_countIn 9 = .ok (.getfield 9, 3) := by decide +kernel
theorem d_Tally_countIn_12 : decode b_Tally_countIn 12 = .ok (.iload 5, 2) := by decide +kernel
theorem d_Tally_countIn_14 : decode b_Tally_countIn 14 = .ok (.iaload, 1) := by decide +kernel
theorem d_Tally_countIn_15 : decode b_Tally_countIn 15 = .ok (.iload_n 1, 1) := by decide +kernel
theorem d_Tally_countIn_16 : decode b_Tally_countIn 16 = .ok (.ishr, 1) := by decide +kernel
theorem d_Tally_countIn_17 : decode b_Tally_countIn 17 = .ok (.iconst 1, 1) := by decide +kernel
theorem d_Tally_countIn_18 : decode b_Tally_countIn 18 = .ok (.iand, 1) := by decide +kernel
theorem d_Tally_countIn_19 : decode b_Tally_countIn 19 = .ok (.ifCond .eq 5, 3) := by decide +kernel
theorem d_Tally_countIn_22 : decode b_Tally_countIn 22 = .ok (.iconst 0, 1) := by decide +kernel
theorem d_Tally_countIn_23 : decode b_Tally_countIn 23 = .ok (.ireturn, 1) := by decide +kernel
theorem d_Tally_countIn_24 : decode b_Tally_countIn 24 = .ok (.aload_n 0, 1) := by decide +kernel
theorem d_Tally_countIn_25 : decode b_Tally_countIn 25 = .ok (.getfield 9, 3) := by decide +kernel
theorem d_Tally_countIn_28 : decode b_Tally_countIn 28 = .ok (.iload 5, 2) := by decide +kernel
theorem d_Tally_countIn_30 : decode b_Tally_countIn 30 = .ok (.dup2, 1) := by decide +kernel
theorem d_Tally_countIn_31 : decode b_Tally_countIn 31 = .ok (.iaload, 1) := by decide +kernel
theorem d_Tally_countIn_32 : decode b_Tally_countIn 32 = .ok (.iconst 1, 1) := by decide +kernel
theorem d_Tally_countIn_33 : decode b_Tally_countIn 33 = .ok (.iload_n 1, 1) := by decide +kernel
theorem d_Tally_countIn_34 : decode b_Tally_countIn 34 = .ok (.ishl, 1) := by decide +kernel
theorem d_Tally_countIn_35 : decode b_Tally_countIn 35 = .ok (.ior, 1) := by decide +kernel
theorem d_Tally_countIn_36 : decode b_Tally_countIn 36 = .ok (.iastore, 1) := by decide +kernel
theorem d_Tally_countIn_37 : decode b_Tally_countIn 37 = .ok (.aload_n 0, 1) := by decide +kernel
theorem d_Tally_countIn_38 : decode b_Tally_countIn 38 = .ok (.getfield 15, 3) := by decide +kernel
theorem d_Tally_countIn_41 : decode b_Tally_countIn 41 = .ok (.iload 5, 2) := by decide +kernel
theorem d_Tally_countIn_43 : decode b_Tally_countIn 43 = .ok (.iconst 4, 1) := by decide +kernel
theorem d_Tally_countIn_44 : decode b_Tally_countIn 44 = .ok (.imul, 1) := by decide +kernel
theorem d_Tally_countIn_45 : decode b_Tally_countIn 45 = .ok (.iload 4, 2) := by decide +kernel
theorem d_Tally_countIn_47 : decode b_Tally_countIn 47 = .ok (.iadd, 1) := by decide +kernel
theorem d_Tally_countIn_48 : decode b_Tally_countIn 48 = .ok (.dup2, 1) := by decide +kernel
theorem d_Tally_countIn_49 : decode b_Tally_countIn 49 = .ok (.iaload, 1) := by decide +kernel
theorem d_Tally_countIn_50 : decode b_Tally_countIn 50 = .ok (.iconst 1, 1) := by decide +kernel
theorem d_Tally_countIn_51 : decode b_Tally_countIn 51 = .ok (.iadd, 1) := by decide +kernel
theorem d_Tally_countIn_52 : decode b_Tally_countIn 52 = .ok (.iastore, 1) := by decide +kernel
theorem d_Tally_countIn_53 : decode b_Tally_countIn 53 = .ok (.iconst 1, 1) := by decide +kernel
theorem d_Tally_countIn_54 : decode b_Tally_countIn 54 = .ok (.ireturn, 1) := by decide +kernel
theorem d_Tally_count_0 : decode b_Tally_count 0 = .ok (.aload_n 0, 1) := by decide +kernel
theorem d_Tally_count_1 : decode b_Tally_count 1 = .ok (.getfield 15, 3) := by decide +kernel
theorem d_Tally_count_4 : decode b_Tally_count 4 = .ok (.iload_n 1, 1) := by decide +kernel
theorem d_Tally_count_5 : decode b_Tally_count 5 = .ok (.bipush 63, 2) := by decide +kernel
theorem d_Tally_count_7 : decode b_Tally_count 7 = .ok (.imul, 1) := by decide +kernel
theorem d_Tally_count_8 : decode b_Tally_count 8 = .ok (.iload_n 2, 1) := by decide +kernel
theorem d_Tally_count_9 : decode b_Tally_count 9 = .ok (.iadd, 1) := by decide +kernel
theorem d_Tally_count_10 : decode b_Tally_count 10 = .ok (.iconst 4, 1) := by decide +kernel
theorem d_Tally_count_11 : decode b_Tally_count 11 = .ok (.imul, 1) := by decide +kernel
theorem d_Tally_count_12 : decode b_Tally_count 12 = .ok (.iload_n 3, 1) := by decide +kernel
theorem d_Tally_count_13 : decode b_Tally_count 13 = .ok (.iadd, 1) := by decide +kernel
theorem d_Tally_count_14 : decode b_Tally_count 14 = .ok (.iaload, 1) := by decide +kernel
theorem d_Tally_count_15 : decode b_Tally_count 15 = .ok (.ireturn, 1) := by decide +kernel
theorem d_Row_holds_0 : decode b_Row_holds 0 = .ok (.iconst 0, 1) := by decide +kernel
theorem d_Row_holds_1 : decode b_Row_holds 1 = .ok (.istore_n 2, 1) := by decide +kernel
theorem d_Row_holds_2 : decode b_Row_holds 2 = .ok (.iload_n 2, 1) := by decide +kernel
theorem d_Row_holds_3 : decode b_Row_holds 3 = .ok (.aload_n 0, 1) := by decide +kernel
theorem d_Row_holds_4 : decode b_Row_holds 4 = .ok (.getfield 21, 3) := by decide +kernel
theorem d_Row_holds_7 : decode b_Row_holds 7 = .ok (.if_icmp .ge 21, 3) := by decide +kernel
theorem d_Row_holds_10 : decode b_Row_holds 10 = .ok (.aload_n 0, 1) := by decide +kernel
theorem d_Row_holds_11 : decode b_Row_holds 11 = .ok (.getfield 9, 3) := by decide +kernel
theorem d_Row_holds_14 : decode b_Row_holds 14 = .ok (.iload_n 2, 1) := by decide +kernel
theorem d_Row_holds_15 : decode b_Row_holds 15 = .ok (.iaload, 1) := by decide +kernel
theorem d_Row_holds_16 : decode b_Row_holds 16 = .ok (.iload_n 1, 1) := by decide +kernel
theorem d_Row_holds_17 : decode b_Row_holds 17 = .ok (.if_icmp .ne 5, 3) := by decide +kernel
theorem d_Row_holds_20 : decode b_Row_holds 20 = .ok (.iconst 1, 1) := by decide +kernel
theorem d_Row_holds_21 : decode b_Row_holds 21 = .ok (.ireturn, 1) := by decide +kernel
theorem d_Row_holds_22 : decode b_Row_holds 22 = .ok (.iinc 2 1, 3) := by decide +kernel
theorem d_Row_holds_25 : decode b_Row_holds 25 = .ok (.goto (-23), 3) := by decide +kernel
theorem d_Row_holds_28 : decode b_Row_holds 28 = .ok (.iconst 0, 1) := by decide +kernel
theorem d_Row_holds_29 : decode b_Row_holds 29 = .ok (.ireturn, 1) := by decide +kernel
theorem d_Rules_isFull_0 : decode b_Rules_isFull 0 = .ok (.aload_n 1, 1) := by decide +kernel
theorem d_Rules_isFull_1 : decode b_Rules_isFull 1 = .ok (.getfield 24, 3) := by decide +kernel
theorem d_Rules_isFull_4 : decode b_Rules_isFull 4 = .ok (.aload_n 0, 1) := by decide +kernel
theorem d_Rules_isFull_5 : decode b_Rules_isFull 5 = .ok (.getfield 18, 3) := by decide +kernel
theorem d_Rules_isFull_8 : decode b_Rules_isFull 8 = .ok (.if_icmp .lt 7, 3) := by decide +kernel
theorem d_Rules_isFull_11 : decode b_Rules_isFull 11 = .ok (.iconst 1, 1) := by decide +kernel
theorem d_Rules_isFull_12 : decode b_Rules_isFull 12 = .ok (.goto 4, 3) := by decide +kernel
theorem d_Rules_isFull_15 : decode b_Rules_isFull 15 = .ok (.iconst 0, 1) := by decide +kernel
theorem d_Rules_isFull_16 : decode b_Rules_isFull 16 = .ok (.ireturn, 1) := by decide +kernel
theorem d_Rules_mostChosen_0 : decode b_Rules_mostChosen 0 = .ok (.aload_n 1, 1) := by decide +kernel
theorem d_Rules_mostChosen_1 : decode b_Rules_mostChosen 1 = .ok (.getfield 58, 3) := by decide +kernel
theorem d_Rules_mostChosen_4 : decode b_Rules_mostChosen 4 = .ok (.iload_n 2, 1) := by decide +kernel
theorem d_Rules_mostChosen_5 : decode b_Rules_mostChosen 5 = .ok (.iaload, 1) := by decide +kernel
theorem d_Rules_mostChosen_6 : decode b_Rules_mostChosen 6 = .ok (.aload_n 0, 1) := by decide +kernel
theorem d_Rules_mostChosen_7 : decode b_Rules_mostChosen 7 = .ok (.getfield 18, 3) := by decide +kernel
theorem d_Rules_mostChosen_10 : decode b_Rules_mostChosen 10 = .ok (.invokestatic 62, 3) := by decide +kernel
theorem d_Rules_mostChosen_13 : decode b_Rules_mostChosen 13 = .ok (.ireturn, 1) := by decide +kernel
theorem d_Rules_isMajority_0 : decode b_Rules_isMajority 0 = .ok (.iconst 2, 1) := by decide +kernel
theorem d_Rules_isMajority_1 : decode b_Rules_isMajority 1 = .ok (.iload_n 1, 1) := by decide +kernel
theorem d_Rules_isMajority_2 : decode b_Rules_isMajority 2 = .ok (.imul, 1) := by decide +kernel
theorem d_Rules_isMajority_3 : decode b_Rules_isMajority 3 = .ok (.aload_n 0, 1) := by decide +kernel
theorem d_Rules_isMajority_4 : decode b_Rules_isMajority 4 = .ok (.getfield 9, 3) := by decide +kernel
theorem d_Rules_isMajority_7 : decode b_Rules_isMajority 7 = .ok (.if_icmp .le 7, 3) := by decide +kernel
theorem d_Rules_isMajority_10 : decode b_Rules_isMajority 10 = .ok (.iconst 1, 1) := by decide +kernel
theorem d_Rules_isMajority_11 : decode b_Rules_isMajority 11 = .ok (.goto 4, 3) := by decide +kernel
theorem d_Rules_isMajority_14 : decode b_Rules_isMajority 14 = .ok (.iconst 0, 1) := by decide +kernel
theorem d_Rules_isMajority_15 : decode b_Rules_isMajority 15 = .ok (.ireturn, 1) := by decide +kernel
theorem d_Row_holdsWith_0 : decode b_Row_holdsWith 0 = .ok (.iconst 0, 1) := by decide +kernel
theorem d_Row_holdsWith_1 : decode b_Row_holdsWith 1 = .ok (.istore_n 3, 1) := by decide +kernel
theorem d_Row_holdsWith_2 : decode b_Row_holdsWith 2 = .ok (.iload_n 3, 1) := by decide +kernel
theorem d_Row_holdsWith_3 : decode b_Row_holdsWith 3 = .ok (.aload_n 0, 1) := by decide +kernel
theorem d_Row_holdsWith_4 : decode b_Row_holdsWith 4 = .ok (.getfield 21, 3) := by decide +kernel
theorem d_Row_holdsWith_7 : decode b_Row_holdsWith 7 = .ok (.if_icmp .ge 35, 3) := by decide +kernel
theorem d_Row_holdsWith_10 : decode b_Row_holdsWith 10 = .ok (.aload_n 0, 1) := by decide +kernel
theorem d_Row_holdsWith_11 : decode b_Row_holdsWith 11 = .ok (.getfield 9, 3) := by decide +kernel
theorem d_Row_holdsWith_14 : decode b_Row_holdsWith 14 = .ok (.iload_n 3, 1) := by decide +kernel
theorem d_Row_holdsWith_15 : decode b_Row_holdsWith 15 = .ok (.iaload, 1) := by decide +kernel
theorem d_Row_holdsWith_16 : decode b_Row_holdsWith 16 = .ok (.iload_n 1, 1) := by decide +kernel
theorem d_Row_holdsWith_17 : decode b_Row_holdsWith 17 = .ok (.if_icmp .ne 19, 3) := by decide +kernel
theorem d_Row_holdsWith_20 : decode b_Row_holdsWith 20 = .ok (.aload_n 0, 1) := by decide +kernel
theorem d_Row_holdsWith_21 : decode b_Row_holdsWith 21 = .ok (.getfield 15, 3) := by decide +kernel
theorem d_Row_holdsWith_24 : decode b_Row_holdsWith 24 = .ok (.iload_n 3, 1) := by decide +kernel
theorem d_Row_holdsWith_25 : decode b_Row_holdsWith 25 = .ok (.iaload, 1) := by decide +kernel
theorem d_Row_holdsWith_26 : decode b_Row_holdsWith 26 = .ok (.iload_n 2, 1) := by decide +kernel
theorem d_Row_holdsWith_27 : decode b_Row_holdsWith 27 = .ok (.if_icmp .ne 7, 3) := by decide +kernel
theorem d_Row_holdsWith_30 : decode b_Row_holdsWith 30 = .ok (.iconst 1, 1) := by decide +kernel
theorem d_Row_holdsWith_31 : decode b_Row_holdsWith 31 = .ok (.goto 4, 3) := by decide +kernel
theorem d_Row_holdsWith_34 : decode b_Row_holdsWith 34 = .ok (.iconst 0, 1) := by decide +kernel
theorem d_Row_holdsWith_35 : decode b_Row_holdsWith 35 = .ok (.ireturn, 1) := by decide +kernel
theorem d_Row_holdsWith_36 : decode b_Row_holdsWith 36 = .ok (.iinc 3 1, 3) := by decide +kernel
theorem d_Row_holdsWith_39 : decode b_Row_holdsWith 39 = .ok (.goto (-37), 3) := by decide +kernel
theorem d_Row_holdsWith_42 : decode b_Row_holdsWith 42 = .ok (.iconst 0, 1) := by decide +kernel
theorem d_Row_holdsWith_43 : decode b_Row_holdsWith 43 = .ok (.ireturn, 1) := by decide +kernel
theorem d_Rules_canStayDivided_0 : decode b_Rules_canStayDivided 0 = .ok (.aload_n 1, 1) := by decide +kernel
theorem d_Rules_canStayDivided_1 : decode b_Rules_canStayDivided 1 = .ok (.getfield 58, 3) := by decide +kernel
theorem d_Rules_canStayDivided_4 : decode b_Rules_canStayDivided 4 = .ok (.iconst 0, 1) := by decide +kernel
theorem d_Rules_canStayDivided_5 : decode b_Rules_canStayDivided 5 = .ok (.iaload, 1) := by decide +kernel
theorem d_Rules_canStayDivided_6 : decode b_Rules_canStayDivided 6 = .ok (.aload_n 0, 1) := by decide +kernel
theorem d_Rules_canStayDivided_7 : decode b_Rules_canStayDivided 7 = .ok (.getfield 9, 3) := by decide +kernel
theorem d_Rules_canStayDivided_10 : decode b_Rules_canStayDivided 10 = .ok (.iconst 2, 1) := by decide +kernel
theorem d_Rules_canStayDivided_11 : decode b_Rules_canStayDivided 11 = .ok (.idiv, 1) := by decide +kernel
theorem d_Rules_canStayDivided_12 : decode b_Rules_canStayDivided 12 = .ok (.invokestatic 62, 3) := by decide +kernel
theorem d_Rules_canStayDivided_15 : decode b_Rules_canStayDivided 15 = .ok (.istore_n 2, 1) := by decide +kernel
theorem d_Rules_canStayDivided_16 : decode b_Rules_canStayDivided 16 = .ok (.aload_n 1, 1) := by decide +kernel
theorem d_Rules_canStayDivided_17 : decode b_Rules_canStayDivided 17 = .ok (.getfield 58, 3) := by decide +kernel
theorem d_Rules_canStayDivided_20 : decode b_Rules_canStayDivided 20 = .ok (.iconst 1, 1) := by decide +kernel
theorem d_Rules_canStayDivided_21 : decode b_Rules_canStayDivided 21 = .ok (.iaload, 1) := by decide +kernel
theorem d_Rules_canStayDivided_22 : decode b_Rules_canStayDivided 22 = .ok (.aload_n 0, 1) := by decide +kernel
theorem d_Rules_canStayDivided_23 : decode b_Rules_canStayDivided 23 = .ok (.getfield 9, 3) := by decide +kernel
theorem d_Rules_canStayDivided_26 : decode b_Rules_canStayDivided 26 = .ok (.iconst 2, 1) := by decide +kernel
theorem d_Rules_canStayDivided_27 : decode b_Rules_canStayDivided 27 = .ok (.idiv, 1) := by decide +kernel
theorem d_Rules_canStayDivided_28 : decode b_Rules_canStayDivided 28 = .ok (.invokestatic 62, 3) := by decide +kernel
theorem d_Rules_canStayDivided_31 : decode b_Rules_canStayDivided 31 = .ok (.istore_n 3, 1) := by decide +kernel
theorem d_Rules_canStayDivided_32 : decode b_Rules_canStayDivided 32 = .ok (.iload_n 2, 1) := by decide +kernel
theorem d_Rules_canStayDivided_33 : decode b_Rules_canStayDivided 33 = .ok (.iload_n 3, 1) := by decide +kernel
theorem d_Rules_canStayDivided_34 : decode b_Rules_canStayDivided 34 = .ok (.iadd, 1) := by decide +kernel
theorem d_Rules_canStayDivided_35 : decode b_Rules_canStayDivided 35 = .ok (.aload_n 0, 1) := by decide +kernel
theorem d_Rules_canStayDivided_36 : decode b_Rules_canStayDivided 36 = .ok (.getfield 18, 3) := by decide +kernel
theorem d_Rules_canStayDivided_39 : decode b_Rules_canStayDivided 39 = .ok (.if_icmp .lt 7, 3) := by decide +kernel
theorem d_Rules_canStayDivided_42 : decode b_Rules_canStayDivided 42 = .ok (.iconst 1, 1) := by decide +kernel
theorem d_Rules_canStayDivided_43 : decode b_Rules_canStayDivided 43 = .ok (.goto 4, 3) := by decide +kernel
theorem d_Rules_canStayDivided_46 : decode b_Rules_canStayDivided 46 = .ok (.iconst 0, 1) := by decide +kernel
theorem d_Rules_canStayDivided_47 : decode b_Rules_canStayDivided 47 = .ok (.ireturn, 1) := by decide +kernel
theorem d_Rules_canNeedToss_0 : decode b_Rules_canNeedToss 0 = .ok (.aload_n 1, 1) := by decide +kernel
theorem d_Rules_canNeedToss_1 : decode b_Rules_canNeedToss 1 = .ok (.getfield 58, 3) := by decide +kernel
theorem d_Rules_canNeedToss_4 : decode b_Rules_canNeedToss 4 = .ok (.iconst 2, 1) := by decide +kernel
theorem d_Rules_canNeedToss_5 : decode b_Rules_canNeedToss 5 = .ok (.iaload, 1) := by decide +kernel
theorem d_Rules_canNeedToss_6 : decode b_Rules_canNeedToss 6 = .ok (.aload_n 0, 1) := by decide +kernel
theorem d_Rules_canNeedToss_7 : decode b_Rules_canNeedToss 7 = .ok (.getfield 15, 3) := by decide +kernel
theorem d_Rules_canNeedToss_10 : decode b_Rules_canNeedToss 10 = .ok (.invokestatic 62, 3) := by decide +kernel
theorem d_Rules_canNeedToss_13 : decode b_Rules_canNeedToss 13 = .ok (.istore_n 2, 1) := by decide +kernel
theorem d_Rules_canNeedToss_14 : decode b_Rules_canNeedToss 14 = .ok (.aload_n 1, 1) := by decide +kernel
theorem d_Rules_canNeedToss_15 : decode b_Rules_canNeedToss 15 = .ok (.getfield 58, 3) := by decide +kernel
theorem d_Rules_canNeedToss_18 : decode b_Rules_canNeedToss 18 = .ok (.iconst 3, 1) := by decide +kernel
theorem d_Rules_canNeedToss_19 : decode b_Rules_canNeedToss 19 = .ok (.iaload, 1) := by decide +kernel
theorem d_Rules_canNeedToss_20 : decode b_Rules_canNeedToss 20 = .ok (.aload_n 0, 1) := by decide +kernel
theorem d_Rules_canNeedToss_21 : decode b_Rules_canNeedToss 21 = .ok (.getfield 15, 3) := by decide +kernel
theorem d_Rules_canNeedToss_24 : decode b_Rules_canNeedToss 24 = .ok (.invokestatic 62, 3) := by decide +kernel
theorem d_Rules_canNeedToss_27 : decode b_Rules_canNeedToss 27 = .ok (.istore_n 3, 1) := by decide +kernel
theorem d_Rules_canNeedToss_28 : decode b_Rules_canNeedToss 28 = .ok (.aload_n 1, 1) := by decide +kernel
theorem d_Rules_canNeedToss_29 : decode b_Rules_canNeedToss 29 = .ok (.getfield 58, 3) := by decide +kernel
theorem d_Rules_canNeedToss_32 : decode b_Rules_canNeedToss 32 = .ok (.iconst 0, 1) := by decide +kernel
theorem d_Rules_canNeedToss_33 : decode b_Rules_canNeedToss 33 = .ok (.iaload, 1) := by decide +kernel
theorem d_Rules_canNeedToss_34 : decode b_Rules_canNeedToss 34 = .ok (.aload_n 1, 1) := by decide +kernel
theorem d_Rules_canNeedToss_35 : decode b_Rules_canNeedToss 35 = .ok (.getfield 58, 3) := by decide +kernel
theorem d_Rules_canNeedToss_38 : decode b_Rules_canNeedToss 38 = .ok (.iconst 1, 1) := by decide +kernel
theorem d_Rules_canNeedToss_39 : decode b_Rules_canNeedToss 39 = .ok (.iaload, 1) := by decide +kernel
theorem d_Rules_canNeedToss_40 : decode b_Rules_canNeedToss 40 = .ok (.iadd, 1) := by decide +kernel
theorem d_Rules_canNeedToss_41 : decode b_Rules_canNeedToss 41 = .ok (.iload_n 2, 1) := by decide +kernel
theorem d_Rules_canNeedToss_42 : decode b_Rules_canNeedToss 42 = .ok (.iadd, 1) := by decide +kernel
theorem d_Rules_canNeedToss_43 : decode b_Rules_canNeedToss 43 = .ok (.iload_n 3, 1) := by decide +kernel
theorem d_Rules_canNeedToss_44 : decode b_Rules_canNeedToss 44 = .ok (.iadd, 1) := by decide +kernel
theorem d_Rules_canNeedToss_45 : decode b_Rules_canNeedToss 45 = .ok (.aload_n 0, 1) := by decide +kernel
theorem d_Rules_canNeedToss_46 : decode b_Rules_canNeedToss 46 = .ok (.getfield 18, 3) := by decide +kernel
theorem d_Rules_canNeedToss_49 : decode b_Rules_canNeedToss 49 = .ok (.if_icmp .lt 7, 3) := by decide +kernel
theorem d_Rules_canNeedToss_52 : decode b_Rules_canNeedToss 52 = .ok (.iconst 1, 1) := by decide +kernel
theorem d_Rules_canNeedToss_53 : decode b_Rules_canNeedToss 53 = .ok (.goto 4, 3) := by decide +kernel
theorem d_Rules_canNeedToss_56 : decode b_Rules_canNeedToss 56 = .ok (.iconst 0, 1) := by decide +kernel
theorem d_Rules_canNeedToss_57 : decode b_Rules_canNeedToss 57 = .ok (.ireturn, 1) := by decide +kernel
theorem d_Row_append_0 : decode b_Row_append 0 = .ok (.aload_n 0, 1) := by decide +kernel
theorem d_Row_append_1 : decode b_Row_append 1 = .ok (.getfield 21, 3) := by decide +kernel
theorem d_Row_append_4 : decode b_Row_append 4 = .ok (.aload_n 0, 1) := by decide +kernel
theorem d_Row_append_5 : decode b_Row_append 5 = .ok (.getfield 9, 3) := by decide +kernel
theorem d_Row_append_8 : decode b_Row_append 8 = .ok (.arraylength, 1) := by decide +kernel
theorem d_Row_append_9 : decode b_Row_append 9 = .ok (.if_icmp .ge 43, 3) := by decide +kernel
theorem d_Row_append_12 : decode b_Row_append 12 = .ok (.aload_n 0, 1) := by decide +kernel
theorem d_Row_append_13 : decode b_Row_append 13 = .ok (.getfield 9, 3) := by decide +kernel
theorem d_Row_append_16 : decode b_Row_append 16 = .ok (.aload_n 0, 1) := by decide +kernel
theorem d_Row_append_17 : decode b_Row_append 17 = .ok (.getfield 21, 3) := by decide +kernel
theorem d_Row_append_20 : decode b_Row_append 20 = .ok (.iload_n 1, 1) := by decide +kernel
theorem d_Row_append_21 : decode b_Row_append 21 = .ok (.iastore, 1) := by decide +kernel
theorem d_Row_append_22 : decode b_Row_append 22 = .ok (.aload_n 0, 1) := by decide +kernel
theorem d_Row_append_23 : decode b_Row_append 23 = .ok (.getfield 15, 3) := by decide +kernel
theorem d_Row_append_26 : decode b_Row_append 26 = .ok (.aload_n 0, 1) := by decide +kernel
theorem d_Row_append_27 : decode b_Row_append 27 = .ok (.getfield 21, 3) := by decide +kernel
theorem d_Row_append_30 : decode b_Row_append 30 = .ok (.iload_n 2, 1) := by decide +kernel
theorem d_Row_append_31 : decode b_Row_append 31 = .ok (.iastore, 1) := by decide +kernel
theorem d_Row_append_32 : decode b_Row_append 32 = .ok (.aload_n 0, 1) := by decide +kernel
theorem d_Row_append_33 : decode b_Row_append 33 = .ok (.getfield 18, 3) := by decide +kernel
theorem d_Row_append_36 : decode b_Row_append 36 = .ok (.iload_n 2, 1) := by decide +kernel
theorem d_Row_append_37 : decode b_Row_append 37 = .ok (.dup2, 1) := by decide +kernel
theorem d_Row_append_38 : decode b_Row_append 38 = .ok (.iaload, 1) := by decide +kernel
theorem d_Row_append_39 : decode b_Row_append 39 = .ok (.iconst 1, 1) := by decide +kernel
theorem d_Row_append_40 : decode b_Row_append 40 = .ok (.iadd, 1) := by decide +kernel
theorem d_Row_append_41 : decode b_Row_append 41 = .ok (.iastore, 1) := by decide +kernel
theorem d_Row_append_42 : decode b_Row_append 42 = .ok (.aload_n 0, 1) := by decide +kernel
theorem d_Row_append_43 : decode b_Row_append 43 = .ok (.dup, 1) := by decide +kernel
theorem d_Row_append_44 : decode b_Row_append 44 = .ok (.getfield 21, 3) := by decide +kernel
theorem d_Row_append_47 : decode b_Row_append 47 = .ok (.iconst 1, 1) := by decide +kernel
theorem d_Row_append_48 : decode b_Row_append 48 = .ok (.iadd, 1) := by decide +kernel
theorem d_Row_append_49 : decode b_Row_append 49 = .ok (.putfield 21, 3) := by decide +kernel
theorem d_Row_append_52 : decode b_Row_append 52 = .ok (.return_, 1) := by decide +kernel
theorem d_ER_isSlot_0 : decode b_ER_isSlot 0 = .ok (.iload_n 0, 1) := by decide +kernel
theorem d_ER_isSlot_1 : decode b_ER_isSlot 1 = .ok (.ifCond .lt 13, 3) := by decide +kernel
theorem d_ER_isSlot_4 : decode b_ER_isSlot 4 = .ok (.iload_n 0, 1) := by decide +kernel
theorem d_ER_isSlot_5 : decode b_ER_isSlot 5 = .ok (.bipush 9, 2) := by decide +kernel
theorem d_ER_isSlot_7 : decode b_ER_isSlot 7 = .ok (.if_icmp .ge 7, 3) := by decide +kernel
theorem d_ER_isSlot_10 : decode b_ER_isSlot 10 = .ok (.iconst 1, 1) := by decide +kernel
theorem d_ER_isSlot_11 : decode b_ER_isSlot 11 = .ok (.goto 4, 3) := by decide +kernel
theorem d_ER_isSlot_14 : decode b_ER_isSlot 14 = .ok (.iconst 0, 1) := by decide +kernel
theorem d_ER_isSlot_15 : decode b_ER_isSlot 15 = .ok (.ireturn, 1) := by decide +kernel
theorem d_Row_countInFirst_0 : decode b_Row_countInFirst 0 = .ok (.iconst 0, 1) := by decide +kernel
theorem d_Row_countInFirst_1 : decode b_Row_countInFirst 1 = .ok (.istore_n 3, 1) := by decide +kernel
theorem d_Row_countInFirst_2 : decode b_Row_countInFirst 2 = .ok (.iconst 0, 1) := by decide +kernel
theorem d_Row_countInFirst_3 : decode b_Row_countInFirst 3 = .ok (.istore 4, 2) := by decide +kernel
theorem d_Row_countInFirst_5 : decode b_Row_countInFirst 5 = .ok (.iload 4, 2) := by decide +kernel
theorem d_Row_countInFirst_7 : decode b_Row_countInFirst 7 = .ok (.iload_n 1, 1) := by decide +kernel
theorem d_Row_countInFirst_8 : decode b_Row_countInFirst 8 = .ok (.if_icmp .ge 32, 3) := by decide +kernel
theorem d_Row_countInFirst_11 : decode b_Row_countInFirst 11 = .ok (.iload 4, 2) := by decide +kernel
theorem d_Row_countInFirst_13 : decode b_Row_countInFirst 13 = .ok (.aload_n 0, 1) := by decide +kernel
theorem d_Row_countInFirst_14 : decode b_Row_countInFirst 14 = .ok (.getfield 21, 3) := by decide +kernel
theorem d_Row_countInFirst_17 : decode b_Row_countInFirst 17 = .ok (.if_icmp .ge 23, 3) := by decide +kernel
theorem d_Row_countInFirst_20 : decode b_Row_countInFirst 20 = .ok (.aload_n 0, 1) := by decide +kernel
theorem d_Row_countInFirst_21 : decode b_Row_countInFirst 21 = .ok (.getfield 15, 3) := by decide +kernel
theorem d_Row_countInFirst_24 : decode b_Row_countInFirst 24 = .ok (.iload 4, 2) := by decide +kernel
theorem d_Row_countInFirst_26 : decode b_Row_countInFirst 26 = .ok (.iaload, 1) := by decide +kernel
theorem d_Row_countInFirst_27 : decode b_Row_countInFirst 27 = .ok (.iload_n 2, 1) := by decide +kernel
theorem d_Row_countInFirst_28 : decode b_Row_countInFirst 28 = .ok (.if_icmp .ne 6, 3) := by decide +kernel
theorem d_Row_countInFirst_31 : decode b_Row_countInFirst 31 = .ok (.iinc 3 1, 3) := by decide +kernel
theorem d_Row_countInFirst_34 : decode b_Row_countInFirst 34 = .ok (.iinc 4 1, 3) := by decide +kernel
theorem d_Row_countInFirst_37 : decode b_Row_countInFirst 37 = .ok (.goto (-32), 3) := by decide +kernel
theorem d_Row_countInFirst_40 : decode b_Row_countInFirst 40 = .ok (.iload_n 3, 1) := by decide +kernel
theorem d_Row_countInFirst_41 : decode b_Row_countInFirst 41 = .ok (.ireturn, 1) := by decide +kernel
theorem d_Row_speakerAt_0 : decode b_Row_speakerAt 0 = .ok (.iload_n 1, 1) := by decide +kernel
theorem d_Row_speakerAt_1 : decode b_Row_speakerAt 1 = .ok (.ifCond .lt 20, 3) := by decide +kernel
theorem d_Row_speakerAt_4 : decode b_Row_speakerAt 4 = .ok (.iload_n 1, 1) := by decide +kernel
theorem d_Row_speakerAt_5 : decode b_Row_speakerAt 5 = .ok (.aload_n 0, 1) := by decide +kernel
theorem d_Row_speakerAt_6 : decode b_Row_speakerAt 6 = .ok (.getfield 21, 3) := by decide +kernel
theorem d_Row_speakerAt_9 : decode b_Row_speakerAt 9 = .ok (.if_icmp .ge 12, 3) := by decide +kernel
theorem d_Row_speakerAt_12 : decode b_Row_speakerAt 12 = .ok (.aload_n 0, 1) := by decide +kernel
theorem d_Row_speakerAt_13 : decode b_Row_speakerAt 13 = .ok (.getfield 9, 3) := by decide +kernel
theorem d_Row_speakerAt_16 : decode b_Row_speakerAt 16 = .ok (.iload_n 1, 1) := by decide +kernel
theorem d_Row_speakerAt_17 : decode b_Row_speakerAt 17 = .ok (.iaload, 1) := by decide +kernel
theorem d_Row_speakerAt_18 : decode b_Row_speakerAt 18 = .ok (.goto 4, 3) := by decide +kernel
theorem d_Row_speakerAt_21 : decode b_Row_speakerAt 21 = .ok (.iconst (-1), 1) := by decide +kernel
theorem d_Row_speakerAt_22 : decode b_Row_speakerAt 22 = .ok (.ireturn, 1) := by decide +kernel
theorem d_Rules_canPrevail_0 : decode b_Rules_canPrevail 0 = .ok (.iconst 2, 1) := by decide +kernel
theorem d_Rules_canPrevail_1 : decode b_Rules_canPrevail 1 = .ok (.aload_n 0, 1) := by decide +kernel
theorem d_Rules_canPrevail_2 : decode b_Rules_canPrevail 2 = .ok (.aload_n 1, 1) := by decide +kernel
theorem d_Rules_canPrevail_3 : decode b_Rules_canPrevail 3 = .ok (.iload_n 2, 1) := by decide +kernel
theorem d_Rules_canPrevail_4 : decode b_Rules_canPrevail 4 = .ok (.invokevirtual 33, 3) := by decide +kernel
theorem d_Rules_canPrevail_7 : decode b_Rules_canPrevail 7 = .ok (.imul, 1) := by decide +kernel
theorem d_Rules_canPrevail_8 : decode b_Rules_canPrevail 8 = .ok (.istore_n 3, 1) := by decide +kernel
theorem d_Rules_canPrevail_9 : decode b_Rules_canPrevail 9 = .ok (.iload_n 3, 1) := by decide +kernel
theorem d_Rules_canPrevail_10 : decode b_Rules_canPrevail 10 = .ok (.aload_n 0, 1) := by decide +kernel
theorem d_Rules_canPrevail_11 : decode b_Rules_canPrevail 11 = .ok (.getfield 18, 3) := by decide +kernel
theorem d_Rules_canPrevail_14 : decode b_Rules_canPrevail 14 = .ok (.if_icmp .gt 15, 3) := by decide +kernel
theorem d_Rules_canPrevail_17 : decode b_Rules_canPrevail 17 = .ok (.iload_n 2, 1) := by decide +kernel
theorem d_Rules_canPrevail_18 : decode b_Rules_canPrevail 18 = .ok (.ifCond .ne 15, 3) := by decide +kernel
theorem d_Rules_canPrevail_21 : decode b_Rules_canPrevail 21 = .ok (.iload_n 3, 1) := by decide +kernel
theorem d_Rules_canPrevail_22 : decode b_Rules_canPrevail 22 = .ok (.aload_n 0, 1) := by decide +kernel
theorem d_Rules_canPrevail_23 : decode b_Rules_canPrevail 23 = .ok (.getfield 18, 3) := by decide +kernel
theorem d_Rules_canPrevail_26 : decode b_Rules_canPrevail 26 = .ok (.if_icmp .ne 7, 3) := by decide +kernel
theorem d_Rules_canPrevail_29 : decode b_Rules_canPrevail 29 = .ok (.iconst 1, 1) := by decide +kernel
theorem d_Rules_canPrevail_30 : decode b_Rules_canPrevail 30 = .ok (.goto 4, 3) := by decide +kernel
theorem d_Rules_canPrevail_33 : decode b_Rules_canPrevail 33 = .ok (.iconst 0, 1) := by decide +kernel
theorem d_Rules_canPrevail_34 : decode b_Rules_canPrevail 34 = .ok (.ireturn, 1) := by decide +kernel
theorem d_Rules_prevailing_0 : decode b_Rules_prevailing 0 = .ok (.aload_n 1, 1) := by decide +kernel
theorem d_Rules_prevailing_1 : decode b_Rules_prevailing 1 = .ok (.aload_n 0, 1) := by decide +kernel
theorem d_Rules_prevailing_2 : decode b_Rules_prevailing 2 = .ok (.getfield 18, 3) := by decide +kernel
theorem d_Rules_prevailing_5 : decode b_Rules_prevailing 5 = .ok (.iconst 1, 1) := by decide +kernel
theorem d_Rules_prevailing_6 : decode b_Rules_prevailing 6 = .ok (.invokevirtual 68, 3) := by decide +kernel
theorem d_Rules_prevailing_9 : decode b_Rules_prevailing 9 = .ok (.aload_n 1, 1) := by decide +kernel
theorem d_Rules_prevailing_10 : decode b_Rules_prevailing 10 = .ok (.aload_n 0, 1) := by decide +kernel
theorem d_Rules_prevailing_11 : decode b_Rules_prevailing 11 = .ok (.getfield 18, 3) := by decide +kernel
theorem d_Rules_prevailing_14 : decode b_Rules_prevailing 14 = .ok (.iconst 0, 1) := by decide +kernel
theorem d_Rules_prevailing_15 : decode b_Rules_prevailing 15 = .ok (.invokevirtual 68, 3) := by decide +kernel
theorem d_Rules_prevailing_18 : decode b_Rules_prevailing 18 = .ok (.if_icmp .le 7, 3) := by decide +kernel
theorem d_Rules_prevailing_21 : decode b_Rules_prevailing 21 = .ok (.iconst 1, 1) := by decide +kernel
theorem d_Rules_prevailing_22 : decode b_Rules_prevailing 22 = .ok (.goto 4, 3) := by decide +kernel
theorem d_Rules_prevailing_25 : decode b_Rules_prevailing 25 = .ok (.iconst 0, 1) := by decide +kernel
theorem d_Rules_prevailing_26 : decode b_Rules_prevailing 26 = .ok (.ireturn, 1) := by decide +kernel
theorem d_Rules_firmOr_0 : decode b_Rules_firmOr 0 = .ok (.iconst 0, 1) := by decide +kernel
theorem d_Rules_firmOr_1 : decode b_Rules_firmOr 1 = .ok (.istore_n 3, 1) := by decide +kernel
theorem d_Rules_firmOr_2 : decode b_Rules_firmOr 2 = .ok (.iload_n 3, 1) := by decide +kernel
theorem d_Rules_firmOr_3 : decode b_Rules_firmOr 3 = .ok (.iconst 1, 1) := by decide +kernel
theorem d_Rules_firmOr_4 : decode b_Rules_firmOr 4 = .ok (.if_icmp .gt 29, 3) := by decide +kernel
theorem d_Rules_firmOr_7 : decode b_Rules_firmOr 7 = .ok (.aload_n 0, 1) := by decide +kernel
theorem d_Rules_firmOr_8 : decode b_Rules_firmOr 8 = .ok (.aload_n 1, 1) := by decide +kernel
theorem d_Rules_firmOr_9 : decode b_Rules_firmOr 9 = .ok (.aload_n 0, 1) := by decide +kernel
theorem d_Rules_firmOr_10 : decode b_Rules_firmOr 10 = .ok (.getfield 18, 3) := by decide +kernel
theorem d_Rules_firmOr_13 : decode b_Rules_firmOr 13 = .ok (.iload_n 3, 1) := by decide +kernel
theorem d_Rules_firmOr_14 : decode b_Rules_firmOr 14 = .ok (.invokevirtual 68, 3) := by decide +kernel
theorem d_Rules_firmOr_17 : decode b_Rules_firmOr 17 = .ok (.invokevirtual 37, 3) := by decide +kernel
theorem d_Rules_firmOr_20 : decode b_Rules_firmOr 20 = .ok (.ifCond .eq 7, 3) := by decide +kernel
theorem d_Rules_firmOr_23 : decode b_Rules_firmOr 23 = .ok (.iload_n 3, 1) := by decide +kernel
theorem d_Rules_firmOr_24 : decode b_Rules_firmOr 24 = .ok (.iconst 2, 1) := by decide +kernel
theorem d_Rules_firmOr_25 : decode b_Rules_firmOr 25 = .ok (.iadd, 1) := by decide +kernel
theorem d_Rules_firmOr_26 : decode b_Rules_firmOr 26 = .ok (.ireturn, 1) := by decide +kernel
theorem d_Rules_firmOr_27 : decode b_Rules_firmOr 27 = .ok (.iinc 3 1, 3) := by decide +kernel
theorem d_Rules_firmOr_30 : decode b_Rules_firmOr 30 = .ok (.goto (-28), 3) := by decide +kernel
theorem d_Rules_firmOr_33 : decode b_Rules_firmOr 33 = .ok (.iload_n 2, 1) := by decide +kernel
theorem d_Rules_firmOr_34 : decode b_Rules_firmOr 34 = .ok (.ireturn, 1) := by decide +kernel
theorem d_Rules_heldFirm_0 : decode b_Rules_heldFirm 0 = .ok (.iconst 0, 1) := by decide +kernel
theorem d_Rules_heldFirm_1 : decode b_Rules_heldFirm 1 = .ok (.istore_n 3, 1) := by decide +kernel
theorem d_Rules_heldFirm_2 : decode b_Rules_heldFirm 2 = .ok (.iload_n 3, 1) := by decide +kernel
theorem d_Rules_heldFirm_3 : decode b_Rules_heldFirm 3 = .ok (.iconst 1, 1) := by decide +kernel
theorem d_Rules_heldFirm_4 : decode b_Rules_heldFirm 4 = .ok (.if_icmp .gt 26, 3) := by decide +kernel
theorem d_Rules_heldFirm_7 : decode b_Rules_heldFirm 7 = .ok (.aload_n 1, 1) := by decide +kernel
theorem d_Rules_heldFirm_8 : decode b_Rules_heldFirm 8 = .ok (.aload_n 0, 1) := by decide +kernel
theorem d_Rules_heldFirm_9 : decode b_Rules_heldFirm 9 = .ok (.getfield 18, 3) := by decide +kernel
theorem d_Rules_heldFirm_12 : decode b_Rules_heldFirm 12 = .ok (.iload_n 3, 1) := by decide +kernel
theorem d_Rules_heldFirm_13 : decode b_Rules_heldFirm 13 = .ok (.iconst 2, 1) := by decide +kernel
theorem d_Rules_heldFirm_14 : decode b_Rules_heldFirm 14 = .ok (.iadd, 1) := by decide +kernel
theorem d_Rules_heldFirm_15 : decode b_Rules_heldFirm 15 = .ok (.invokevirtual 68, 3) := by decide +kernel
theorem d_Rules_heldFirm_18 : decode b_Rules_heldFirm 18 = .ok (.iload_n 2, 1) := by decide +kernel
theorem d_Rules_heldFirm_19 : decode b_Rules_heldFirm 19 = .ok (.if_icmp .lt 5, 3) := by decide +kernel
theorem d_Rules_heldFirm_22 : decode b_Rules_heldFirm 22 = .ok (.iload_n 3, 1) := by decide +kernel
theorem d_Rules_heldFirm_23 : decode b_Rules_heldFirm 23 = .ok (.ireturn, 1) := by decide +kernel
theorem d_Rules_heldFirm_24 : decode b_Rules_heldFirm 24 = .ok (.iinc 3 1, 3) := by decide +kernel
theorem d_Rules_heldFirm_27 : decode b_Rules_heldFirm 27 = .ok (.goto (-25), 3) := by decide +kernel
theorem d_Rules_heldFirm_30 : decode b_Rules_heldFirm 30 = .ok (.iconst (-1), 1) := by decide +kernel
theorem d_Rules_heldFirm_31 : decode b_Rules_heldFirm 31 = .ok (.ireturn, 1) := by decide +kernel
theorem d_Rules_follows_0 : decode b_Rules_follows 0 = .ok (.aload_n 0, 1) := by decide +kernel
theorem d_Rules_follows_1 : decode b_Rules_follows 1 = .ok (.aload 4, 2) := by decide +kernel
theorem d_Rules_follows_3 : decode b_Rules_follows 3 = .ok (.invokevirtual 29, 3) := by decide +kernel
theorem d_Rules_follows_6 : decode b_Rules_follows 6 = .ok (.ifCond .ne 5, 3) := by decide +kernel
theorem d_Rules_follows_9 : decode b_Rules_follows 9 = .ok (.iconst 0, 1) := by decide +kernel
theorem d_Rules_follows_10 : decode b_Rules_follows 10 = .ok (.ireturn, 1) := by decide +kernel
theorem d_Rules_follows_11 : decode b_Rules_follows 11 = .ok (.iload_n 1, 1) := by decide +kernel
theorem d_Rules_follows_12 : decode b_Rules_follows 12 = .ok (.iconst 3, 1) := by decide +kernel
theorem d_Rules_follows_13 : decode b_Rules_follows 13 = .ok (.irem, 1) := by decide +kernel
theorem d_Rules_follows_14 : decode b_Rules_follows 14 = .ok (.istore 5, 2) := by decide +kernel
theorem d_Rules_follows_16 : decode b_Rules_follows 16 = .ok (.iload 5, 2) := by decide +kernel
theorem d_Rules_follows_18 : decode b_Rules_follows 18 = .ok (.iconst 2, 1) := by decide +kernel
theorem d_Rules_follows_19 : decode b_Rules_follows 19 = .ok (.if_icmp .ne 49, 3) := by decide +kernel
theorem d_Rules_follows_22 : decode b_Rules_follows 22 = .ok (.iload_n 3, 1) := by decide +kernel
theorem d_Rules_follows_23 : decode b_Rules_follows 23 = .ok (.iconst 2, 1) := by decide +kernel
theorem d_Rules_follows_24 : decode b_Rules_follows 24 = .ok (.if_icmp .lt 19, 3) := by decide +kernel
theorem d_Rules_follows_27 : decode b_Rules_follows 27 = .ok (.aload_n 0, 1) := by decide +kernel
theorem d_Rules_follows_28 : decode b_Rules_follows 28 = .ok (.aload_n 0, 1) := by decide +kernel
theorem d_Rules_follows_29 : decode b_Rules_follows 29 = .ok (.aload 4, 2) := by decide +kernel
theorem d_Rules_follows_31 : decode b_Rules_follows 31 = .ok (.iload_n 3, 1) := by decide +kernel
theorem d_Rules_follows_32 : decode b_Rules_follows 32 = .ok (.iconst 2, 1) := by decide +kernel
theorem d_Rules_follows_33 : decode b_Rules_follows 33 = .ok (.isub, 1) := by decide +kernel
theorem d_Rules_follows_34 : decode b_Rules_follows 34 = .ok (.invokevirtual 33, 3) := by decide +kernel
theorem d_Rules_follows_37 : decode b_Rules_follows 37 = .ok (.invokevirtual 37, 3) := by decide +kernel
theorem d_Rules_follows_40 : decode b_Rules_follows 40 = .ok (.goto 27, 3) := by decide +kernel
theorem d_Rules_follows_43 : decode b_Rules_follows 43 = .ok (.aload 4, 2) := by decide +kernel
theorem d_Rules_follows_45 : decode b_Rules_follows 45 = .ok (.iload_n 2, 1) := by decide +kernel
theorem d_Rules_follows_46 : decode b_Rules_follows 46 = .ok (.iload_n 3, 1) := by decide +kernel
theorem d_Rules_follows_47 : decode b_Rules_follows 47 = .ok (.invokevirtual 41, 3) := by decide +kernel
theorem d_Rules_follows_50 : decode b_Rules_follows 50 = .ok (.ifCond .eq 16, 3) := by decide +kernel
theorem d_Rules_follows_53 : decode b_Rules_follows 53 = .ok (.aload_n 0, 1) := by decide +kernel
theorem d_Rules_follows_54 : decode b_Rules_follows 54 = .ok (.aload 4, 2) := by decide +kernel
theorem d_Rules_follows_56 : decode b_Rules_follows 56 = .ok (.invokevirtual 45, 3) := by decide +kernel
theorem d_Rules_follows_59 : decode b_Rules_follows 59 = .ok (.ifCond .eq 7, 3) := by decide +kernel
theorem d_Rules_follows_62 : decode b_Rules_follows 62 = .ok (.iconst 1, 1) := by decide +kernel
theorem d_Rules_follows_63 : decode b_Rules_follows 63 = .ok (.goto 4, 3) := by decide +kernel
theorem d_Rules_follows_66 : decode b_Rules_follows 66 = .ok (.iconst 0, 1) := by decide +kernel
theorem d_Rules_follows_67 : decode b_Rules_follows 67 = .ok (.ireturn, 1) := by decide +kernel
theorem d_Rules_follows_68 : decode b_Rules_follows 68 = .ok (.iload_n 3, 1) := by decide +kernel
theorem d_Rules_follows_69 : decode b_Rules_follows 69 = .ok (.invokestatic 48, 3) := by decide +kernel
theorem d_Rules_follows_72 : decode b_Rules_follows 72 = .ok (.ifCond .ne 5, 3) := by decide +kernel
theorem d_Rules_follows_75 : decode b_Rules_follows 75 = .ok (.iconst 0, 1) := by decide +kernel
theorem d_Rules_follows_76 : decode b_Rules_follows 76 = .ok (.ireturn, 1) := by decide +kernel
theorem d_Rules_follows_77 : decode b_Rules_follows 77 = .ok (.iload 5, 2) := by decide +kernel
theorem d_Rules_follows_79 : decode b_Rules_follows 79 = .ok (.iconst 1, 1) := by decide +kernel
theorem d_Rules_follows_80 : decode b_Rules_follows 80 = .ok (.if_icmp .ne 13, 3) := by decide +kernel
theorem d_Rules_follows_83 : decode b_Rules_follows 83 = .ok (.aload_n 0, 1) := by decide +kernel
theorem d_Rules_follows_84 : decode b_Rules_follows 84 = .ok (.aload 4, 2) := by decide +kernel
theorem d_Rules_follows_86 : decode b_Rules_follows 86 = .ok (.iload_n 3, 1) := by decide +kernel
theorem d_Rules_follows_87 : decode b_Rules_follows 87 = .ok (.invokevirtual 51, 3) := by decide +kernel
theorem d_Rules_follows_90 : decode b_Rules_follows 90 = .ok (.goto 33, 3) := by decide +kernel
theorem d_Rules_follows_93 : decode b_Rules_follows 93 = .ok (.aload_n 0, 1) := by decide +kernel
theorem d_Rules_follows_94 : decode b_Rules_follows 94 = .ok (.aload 4, 2) := by decide +kernel
theorem d_Rules_follows_96 : decode b_Rules_follows 96 = .ok (.iload_n 3, 1) := by decide +kernel
theorem d_Rules_follows_97 : decode b_Rules_follows 97 = .ok (.iconst 2, 1) := by decide +kernel
theorem d_Rules_follows_98 : decode b_Rules_follows 98 = .ok (.iadd, 1) := by decide +kernel
theorem d_Rules_follows_99 : decode b_Rules_follows 99 = .ok (.invokevirtual 33, 3) := by decide +kernel
theorem d_Rules_follows_102 : decode b_Rules_follows 102 = .ok (.aload_n 0, 1) := by decide +kernel
theorem d_Rules_follows_103 : decode b_Rules_follows 103 = .ok (.getfield 15, 3) := by decide +kernel
theorem d_Rules_follows_106 : decode b_Rules_follows 106 = .ok (.if_icmp .gt 12, 3) := by decide +kernel
theorem d_Rules_follows_109 : decode b_Rules_follows 109 = .ok (.aload_n 0, 1) := by decide +kernel
theorem d_Rules_follows_110 : decode b_Rules_follows 110 = .ok (.aload 4, 2) := by decide +kernel
theorem d_Rules_follows_112 : decode b_Rules_follows 112 = .ok (.invokevirtual 55, 3) := by decide +kernel
theorem d_Rules_follows_115 : decode b_Rules_follows 115 = .ok (.ifCond .eq 7, 3) := by decide +kernel
theorem d_Rules_follows_118 : decode b_Rules_follows 118 = .ok (.iconst 1, 1) := by decide +kernel
theorem d_Rules_follows_119 : decode b_Rules_follows 119 = .ok (.goto 4, 3) := by decide +kernel
theorem d_Rules_follows_122 : decode b_Rules_follows 122 = .ok (.iconst 0, 1) := by decide +kernel
theorem d_Rules_follows_123 : decode b_Rules_follows 123 = .ok (.ireturn, 1) := by decide +kernel
end
section
/-! the machine's arithmetic where nothing wraps -/
theorem er_addE {x y : Int} (h : er_rg (x + y)) : er_add x y = x + y := by
  unfold er_add
  rw [← Int32.ofInt_add, er_wI h]
theorem er_subE {x y : Int} (h : er_rg (x - y)) : er_sub x y = x - y := by
  unfold er_sub
  rw [← Int32.ofInt_sub, er_wI h]
theorem er_mulE {x y : Int} (h : er_rg (x * y)) : er_mul x y = x * y := by
  unfold er_mul
  rw [← Int32.ofInt_mul, er_wI h]
theorem er_divE {x y : Int} (h0 : 0 ≤ x) (h1 : 0 < y) (hx : x < 2147483648) (hy : y < 2147483648) : er_div x y = x / y := by
  obtain ⟨a, rfl⟩ := Int.eq_ofNat_of_zero_le h0
  obtain ⟨d, rfl⟩ := Int.eq_ofNat_of_zero_le (show 0 ≤ y by omega)
  unfold er_div
  rw [er_nIo, er_nIo, pk_div (by omega) (by omega) (by omega), nI_toInt (Nat.lt_of_le_of_lt (Nat.div_le_self a d) (by omega))]
  exact Int.natCast_ediv a d
theorem er_remE {x y : Int} (h0 : 0 ≤ x) (h1 : 0 < y) (hx : x < 2147483648) (hy : y < 2147483648) : er_rem x y = x % y := by
  obtain ⟨a, rfl⟩ := Int.eq_ofNat_of_zero_le h0
  obtain ⟨d, rfl⟩ := Int.eq_ofNat_of_zero_le (show 0 ≤ y by omega)
  unfold er_rem
  rw [er_nIo, er_nIo, pk_rem (by omega) (by omega) (by omega), nI_toInt (Nat.lt_of_le_of_lt (Nat.mod_le a d) (by omega))]
  exact Int.natCast_emod a d
theorem er_andR (x : Int) {k : Nat} {y : Int} (hm : (Int32.ofInt y).toBitVec.toNat = 2 ^ k - 1) (hk : k ≤ 30) : 0 ≤ er_and x y ∧ er_and x y < 2 ^ k := by
  unfold er_and
  obtain ⟨j, hj, e⟩ := pk_andE (Int32.ofInt x) (m := Int32.ofInt y) k hm
  have h2 : 2 ^ k ≤ 2 ^ 30 := Nat.pow_le_pow_right (by omega) hk
  rw [e, nI_toInt (by omega)]
  have : ((2 ^ k : Nat) : Int) = (2 : Int) ^ k := by simp
  omega
theorem er_and1 (x : Int) : er_and x 1 = 0 ∨ er_and x 1 = 1 := by
  have := er_andR x (k := 1) (y := 1) (by decide +kernel) (by decide)
  omega
theorem er_and7 (x : Int) : 0 ≤ er_and x 7 ∧ er_and x 7 < 8 := by
  have := er_andR x (k := 3) (y := 7) (by decide +kernel) (by decide)
  omega
theorem er_and15 (x : Int) : 0 ≤ er_and x 15 ∧ er_and x 15 < 16 := by
  have := er_andR x (k := 4) (y := 15) (by decide +kernel) (by decide)
  omega
-- bits of small numbers, by a table
def er_bi (s v : Nat) : Nat := s / 2 ^ v % 2
theorem er_bitT : ∀ s : Nat, s < 128 → ∀ v : Nat, v < 7 → er_and (er_shr (s : Int) (v : Int)) 1 = ((er_bi s v : Nat) : Int) := by decide +kernel
theorem er_shlT : ∀ v : Nat, v < 8 → er_shl 1 (v : Int) = ((2 ^ v : Nat) : Int) := by decide +kernel
theorem er_orT : ∀ s : Nat, s < 128 → ∀ v : Nat, v < 7 → er_or (s : Int) (er_shl 1 (v : Int)) = ((s + (1 - er_bi s v) * 2 ^ v : Nat) : Int) := by decide +kernel
end
section
/-! Rules_init -/
abbrev rm_Rules_init : Room := { frames := 1, cells := 0, slots := 0, locals := 20 }
def f_Rules_init (p0 p1 : Int) (T M : er_Me) : Option (er_Me × er_Me) :=
  if T p0 (-2) = 2 then
  er_le (er_up M p0 0 p1) fun M2 =>
  er_le (er_up M2 p0 1 (er_div (er_sub p1 1) 3)) fun M3 =>
  er_le (er_up M3 p0 2 (er_sub p1 (M3 p0 1))) fun M5 =>
  er_le (er_up M5 p0 3 (er_add (er_div (er_add p1 (M5 p0 1)) 2) 1)) fun M7 =>
  some (T, M7) else none
set_option maxHeartbeats 4000000 in
theorem w_Rules_init {K : er_K} {l : Launch} {X : er_X} (cx : er_Cx K l X b_Rules_init "EchoedRounds$Rules" 2 rm_Rules_init) (hin : er_In K) {r : er_Me × er_Me} {p0 p1 : Int} {T M : er_Me} (rt : er_Rt K X b_Rules_init (none) 0 0 none r.1 r.2) (h : f_Rules_init p0 p1 T M = some r) : er_G K 0 0 T M 0 [(0, .inr p0), (1, .inl p1)] [] := by
  unfold f_Rules_init at h
  refine er_aload_n cx d_Rules_init_0 0 rfl ?_
  refine er_obj cx d_Rules_init_1 wm_28 wm_15 wm_16 (by decide) (Nat.le_of_ble_eq_true rfl) ?_
  refine er_aload_n cx d_Rules_init_4 0 rfl ?_
  refine er_iload_n cx d_Rules_init_5 1 rfl ?_
  obtain ⟨c2, h⟩ := er_ck h
  obtain ⟨M2, e2, h⟩ := er_lel h
  refine er_puti cx d_Rules_init_6 fd_Rules_9 c2 (fun _ => ⟨hin, rfl, rfl⟩) e2 ?_
  refine er_aload_n cx d_Rules_init_9 0 rfl ?_
  refine er_iload_n cx d_Rules_init_10 1 rfl ?_
  refine er_iconst (v := 1) cx d_Rules_init_11 rfl (by decide) ?_
  refine er_isub cx d_Rules_init_12 ?_
  refine er_iconst (v := 3) cx d_Rules_init_13 rfl (by decide) ?_
  refine er_idiv cx d_Rules_init_14 (by decide) ?_
  obtain ⟨M3, e3, h⟩ := er_lel h
  refine er_puti cx d_Rules_init_15 fd_Rules_15 c2 (fun _ => ⟨hin, rfl, rfl⟩) e3 ?_
  refine er_aload_n cx d_Rules_init_18 0 rfl ?_
  refine er_iload_n cx d_Rules_init_19 1 rfl ?_
  refine er_aload_n cx d_Rules_init_20 0 rfl ?_
  refine er_geti cx d_Rules_init_21 fd_Rules_15 c2 ?_
  refine er_isub cx d_Rules_init_24 ?_
  obtain ⟨M5, e5, h⟩ := er_lel h
  refine er_puti cx d_Rules_init_25 fd_Rules_18 c2 (fun _ => ⟨hin, rfl, rfl⟩) e5 ?_
  refine er_aload_n cx d_Rules_init_28 0 rfl ?_
  refine er_iload_n cx d_Rules_init_29 1 rfl ?_
  refine er_aload_n cx d_Rules_init_30 0 rfl ?_
  refine er_geti cx d_Rules_init_31 fd_Rules_15 c2 ?_
  refine er_iadd cx d_Rules_init_34 ?_
  refine er_iconst (v := 2) cx d_Rules_init_35 rfl (by decide) ?_
  refine er_idiv cx d_Rules_init_36 (by decide) ?_
  refine er_iconst (v := 1) cx d_Rules_init_37 rfl (by decide) ?_
  refine er_iadd cx d_Rules_init_38 ?_
  obtain ⟨M7, e7, h⟩ := er_lel h
  refine er_puti cx d_Rules_init_39 fd_Rules_21 c2 (fun _ => ⟨hin, rfl, rfl⟩) e7 ?_
  obtain rfl := Option.some.inj h
  exact er_vret rt d_Rules_init_42 (by decide) (by decide) ⟨rfl, rfl, rfl⟩
theorem c_Rules_init {l : Launch} {X : er_X} {r : er_Me × er_Me} {p0 p1 : Int} {T M : er_Me} (h : f_Rules_init p0 p1 T M = some r) (hok : ∀ v ∈ ([.inr p0, .inl p1] : List er_V), er_ok v) : er_Ct l X y_Rules_init b_Rules_init 2 (none) rm_Rules_init [.inr p0, .inl p1] T M none r.1 r.2 :=
  er_ct rfl rfl (Nat.le_of_ble_eq_true rfl) hok (fun K cx rt hin => w_Rules_init cx (hin rfl) rt h)
/-! Log_init -/
abbrev rm_Log_init : Room := { frames := 1, cells := 1, slots := 135, locals := 20 }
def f_Log_init (p0 : Int) (T M : er_Me) : Option (er_Me × er_Me) :=
  er_le (T 0 0 + 1) fun b2 =>
  er_le (er_nw T 101 135) fun T2 =>
  er_le (er_mw M b2) fun M2 =>
  if T2 p0 (-2) = 4 ∧ 0 < b2 then
  er_le (er_up T2 p0 0 b2) fun T3 =>
  if T3 p0 (-2) = 4 then
  er_le (er_up M2 p0 1 0) fun M4 =>
  some (T3, M4) else none else none
set_option maxHeartbeats 4000000 in
theorem w_Log_init {K : er_K} {l : Launch} {X : er_X} (cx : er_Cx K l X b_Log_init "EchoedRounds$Log" 1 rm_Log_init) (hin : er_In K) {r : er_Me × er_Me} {p0 : Int} {T M : er_Me} (rt : er_Rt K X b_Log_init (none) 1 135 none r.1 r.2) (h : f_Log_init p0 T M = some r) : er_G K 0 0 T M 0 [(0, .inr p0)] [] := by
  unfold f_Log_init at h
  refine er_aload_n cx d_Log_init_0 0 rfl ?_
  refine er_obj cx d_Log_init_1 wm_57 wm_15 wm_16 (by decide) (Nat.le_of_ble_eq_true rfl) ?_
  refine er_aload_n cx d_Log_init_4 0 rfl ?_
  refine er_sipush (v := 135) cx d_Log_init_5 (by decide +kernel) (by decide) ?_
  obtain ⟨b2, eb2, h⟩ := er_lel h
  obtain ⟨T2, eT2, h⟩ := er_lel h
  obtain ⟨M2, eM2, h⟩ := er_lel h
  refine er_newa (t := 0) (N := 135) cx d_Log_init_8 wm_66 (by decide) rfl (by decide) rfl (by decide) (by decide) (by decide) eT2 eb2 eM2 ?_
  obtain ⟨c3, h⟩ := er_ck h
  obtain ⟨T3, e3, h⟩ := er_lel h
  refine er_putr cx d_Log_init_10 fd_Log_9 c3.1 (fun _ => ⟨hin, rfl, rfl⟩) (fun _ => rfl) (fun _ => rfl) c3.2 e3 ?_
  refine er_aload_n cx d_Log_init_13 0 rfl ?_
  refine er_iconst (v := 0) cx d_Log_init_14 rfl (by decide) ?_
  obtain ⟨c4, h⟩ := er_ck h
  obtain ⟨M4, e4, h⟩ := er_lel h
  refine er_puti cx d_Log_init_15 fd_Log_15 c4 (fun q => by cases q) e4 ?_
  obtain rfl := Option.some.inj h
  exact er_vret rt d_Log_init_18 (by decide) (by decide) ⟨rfl, rfl, rfl⟩
theorem c_Log_init {l : Launch} {X : er_X} {r : er_Me × er_Me} {p0 : Int} {T M : er_Me} (h : f_Log_init p0 T M = some r) (hok : ∀ v ∈ ([.inr p0] : List er_V), er_ok v) : er_Ct l X y_Log_init b_Log_init 1 (none) rm_Log_init [.inr p0] T M none r.1 r.2 :=
  er_ct rfl rfl (Nat.le_of_ble_eq_true rfl) hok (fun K cx rt hin => w_Log_init cx (hin rfl) rt h)
/-! Tally_init -/
abbrev rm_Tally_init : Room := { frames := 1, cells := 2, slots := 945, locals := 20 }
def f_Tally_init (p0 : Int) (T M : er_Me) : Option (er_Me × er_Me) :=
  er_le (T 0 0 + 1) fun b2 =>
  er_le (er_nw T 101 189) fun T2 =>
  er_le (er_mw M b2) fun M2 =>
  if T2 p0 (-2) = 5 ∧ 0 < b2 then
  er_le (er_up T2 p0 0 b2) fun T3 =>
  er_le (T3 0 0 + 1) fun b4 =>
  er_le (er_nw T3 101 756) fun T4 =>
  er_le (er_mw M2 b4) fun M4 =>
  if T4 p0 (-2) = 5 ∧ 0 < b4 then
  er_le (er_up T4 p0 1 b4) fun T5 =>
  some (T5, M4) else none else none
set_option maxHeartbeats 4000000 in
theorem w_Tally_init {K : er_K} {l : Launch} {X : er_X} (cx : er_Cx K l X b_Tally_init "EchoedRounds$Tally" 1 rm_Tally_init) (hin : er_In K) {r : er_Me × er_Me} {p0 : Int} {T M : er_Me} (rt : er_Rt K X b_Tally_init (none) 2 945 none r.1 r.2) (h : f_Tally_init p0 T M = some r) : er_G K 0 0 T M 0 [(0, .inr p0)] [] := by
  unfold f_Tally_init at h
  refine er_aload_n cx d_Tally_init_0 0 rfl ?_
  refine er_obj cx d_Tally_init_1 wm_72 wm_15 wm_16 (by decide) (Nat.le_of_ble_eq_true rfl) ?_
  refine er_aload_n cx d_Tally_init_4 0 rfl ?_
  refine er_sipush (v := 189) cx d_Tally_init_5 (by decide +kernel) (by decide) ?_
  obtain ⟨b2, eb2, h⟩ := er_lel h
  obtain ⟨T2, eT2, h⟩ := er_lel h
  obtain ⟨M2, eM2, h⟩ := er_lel h
  refine er_newa (t := 0) (N := 189) cx d_Tally_init_8 wm_66 (by decide) rfl (by decide) rfl (by decide) (by decide) (by decide) eT2 eb2 eM2 ?_
  obtain ⟨c3, h⟩ := er_ck h
  obtain ⟨T3, e3, h⟩ := er_lel h
  refine er_putr cx d_Tally_init_10 fd_Tally_9 c3.1 (fun _ => ⟨hin, rfl, rfl⟩) (fun _ => rfl) (fun _ => rfl) c3.2 e3 ?_
  refine er_aload_n cx d_Tally_init_13 0 rfl ?_
  refine er_sipush (v := 756) cx d_Tally_init_14 (by decide +kernel) (by decide) ?_
  obtain ⟨b4, eb4, h⟩ := er_lel h
  obtain ⟨T4, eT4, h⟩ := er_lel h
  obtain ⟨M4, eM4, h⟩ := er_lel h
  refine er_newa (t := 0) (N := 756) cx d_Tally_init_17 wm_66 (by decide) rfl (by decide) rfl (by decide) (by decide) (by decide) eT4 eb4 eM4 ?_
  obtain ⟨c5, h⟩ := er_ck h
  obtain ⟨T5, e5, h⟩ := er_lel h
  refine er_putr cx d_Tally_init_19 fd_Tally_15 c5.1 (fun _ => ⟨hin, rfl, rfl⟩) (fun _ => rfl) (fun _ => rfl) c5.2 e5 ?_
  obtain rfl := Option.some.inj h
  exact er_vret rt d_Tally_init_22 (by decide) (by decide) ⟨rfl, rfl, rfl⟩
theorem c_Tally_init {l : Launch} {X : er_X} {r : er_Me × er_Me} {p0 : Int} {T M : er_Me} (h : f_Tally_init p0 T M = some r) (hok : ∀ v ∈ ([.inr p0] : List er_V), er_ok v) : er_Ct l X y_Tally_init b_Tally_init 1 (none) rm_Tally_init [.inr p0] T M none r.1 r.2 :=
  er_ct rfl rfl (Nat.le_of_ble_eq_true rfl) hok (fun K cx rt hin => w_Tally_init cx (hin rfl) rt h)
/-! Row_init -/
abbrev rm_Row_init : Room := { frames := 1, cells := 3, slots := 18, locals := 20 }
def f_Row_init (p0 : Int) (T M : er_Me) : Option (er_Me × er_Me) :=
  er_le (T 0 0 + 1) fun b2 =>
  er_le (er_nw T 101 7) fun T2 =>
  er_le (er_mw M b2) fun M2 =>
  if T2 p0 (-2) = 6 ∧ 0 < b2 then
  er_le (er_up T2 p0 0 b2) fun T3 =>
  er_le (T3 0 0 + 1) fun b4 =>
  er_le (er_nw T3 101 7) fun T4 =>
  er_le (er_mw M2 b4) fun M4 =>
  if T4 p0 (-2) = 6 ∧ 0 < b4 then
  er_le (er_up T4 p0 1 b4) fun T5 =>
  er_le (T5 0 0 + 1) fun b6 =>
  er_le (er_nw T5 101 4) fun T6 =>
  er_le (er_mw M4 b6) fun M6 =>
  if T6 p0 (-2) = 6 ∧ 0 < b6 then
  er_le (er_up T6 p0 2 b6) fun T7 =>
  if T7 p0 (-2) = 6 then
  er_le (er_up M6 p0 3 0) fun M8 =>
  some (T7, M8) else none else none else none else none
set_option maxHeartbeats 4000000 in
theorem w_Row_init {K : er_K} {l : Launch} {X : er_X} (cx : er_Cx K l X b_Row_init "EchoedRounds$Row" 1 rm_Row_init) (hin : er_In K) {r : er_Me × er_Me} {p0 : Int} {T M : er_Me} (rt : er_Rt K X b_Row_init (none) 3 18 none r.1 r.2) (h : f_Row_init p0 T M = some r) : er_G K 0 0 T M 0 [(0, .inr p0)] [] := by
  unfold f_Row_init at h
  refine er_aload_n cx d_Row_init_0 0 rfl ?_
  refine er_obj cx d_Row_init_1 wm_86 wm_15 wm_16 (by decide) (Nat.le_of_ble_eq_true rfl) ?_
  refine er_aload_n cx d_Row_init_4 0 rfl ?_
  refine er_bipush (v := 7) cx d_Row_init_5 (by decide +kernel) (by decide) ?_
  obtain ⟨b2, eb2, h⟩ := er_lel h
  obtain ⟨T2, eT2, h⟩ := er_lel h
  obtain ⟨M2, eM2, h⟩ := er_lel h
  refine er_newa (t := 0) (N := 7) cx d_Row_init_7 wm_66 (by decide) rfl (by decide) rfl (by decide) (by decide) (by decide) eT2 eb2 eM2 ?_
  obtain ⟨c3, h⟩ := er_ck h
  obtain ⟨T3, e3, h⟩ := er_lel h
  refine er_putr cx d_Row_init_9 fd_Row_9 c3.1 (fun _ => ⟨hin, rfl, rfl⟩) (fun _ => rfl) (fun _ => rfl) c3.2 e3 ?_
  refine er_aload_n cx d_Row_init_12 0 rfl ?_
  refine er_bipush (v := 7) cx d_Row_init_13 (by decide +kernel) (by decide) ?_
  obtain ⟨b4, eb4, h⟩ := er_lel h
  obtain ⟨T4, eT4, h⟩ := er_lel h
  obtain ⟨M4, eM4, h⟩ := er_lel h
  refine er_newa (t := 0) (N := 7) cx d_Row_init_15 wm_66 (by decide) rfl (by decide) rfl (by decide) (by decide) (by decide) eT4 eb4 eM4 ?_
  obtain ⟨c5, h⟩ := er_ck h
  obtain ⟨T5, e5, h⟩ := er_lel h
  refine er_putr cx d_Row_init_17 fd_Row_15 c5.1 (fun _ => ⟨hin, rfl, rfl⟩) (fun _ => rfl) (fun _ => rfl) c5.2 e5 ?_
  refine er_aload_n cx d_Row_init_20 0 rfl ?_
  refine er_iconst (v := 4) cx d_Row_init_21 rfl (by decide) ?_
  obtain ⟨b6, eb6, h⟩ := er_lel h
  obtain ⟨T6, eT6, h⟩ := er_lel h
  obtain ⟨M6, eM6, h⟩ := er_lel h
  refine er_newa (t := 0) (N := 4) cx d_Row_init_22 wm_66 (by decide) rfl (by decide) rfl (by decide) (by decide) (by decide) eT6 eb6 eM6 ?_
  obtain ⟨c7, h⟩ := er_ck h
  obtain ⟨T7, e7, h⟩ := er_lel h
  refine er_putr cx d_Row_init_24 fd_Row_18 c7.1 (fun _ => ⟨hin, rfl, rfl⟩) (fun _ => rfl) (fun _ => rfl) c7.2 e7 ?_
  refine er_aload_n cx d_Row_init_27 0 rfl ?_
  refine er_iconst (v := 0) cx d_Row_init_28 rfl (by decide) ?_
  obtain ⟨c8, h⟩ := er_ck h
  obtain ⟨M8, e8, h⟩ := er_lel h
  refine er_puti cx d_Row_init_29 fd_Row_21 c8 (fun q => by cases q) e8 ?_
  obtain rfl := Option.some.inj h
  exact er_vret rt d_Row_init_32 (by decide) (by decide) ⟨rfl, rfl, rfl⟩
theorem c_Row_init {l : Launch} {X : er_X} {r : er_Me × er_Me} {p0 : Int} {T M : er_Me} (h : f_Row_init p0 T M = some r) (hok : ∀ v ∈ ([.inr p0] : List er_V), er_ok v) : er_Ct l X y_Row_init b_Row_init 1 (none) rm_Row_init [.inr p0] T M none r.1 r.2 :=
  er_ct rfl rfl (Nat.le_of_ble_eq_true rfl) hok (fun K cx rt hin => w_Row_init cx (hin rfl) rt h)
/-! ER_isPlain -/
abbrev rm_ER_isPlain : Room := { frames := 0, cells := 0, slots := 0, locals := 0 }
def f_ER_isPlain (p0 : Int) (T M : er_Me) : Option (Int × er_Me) :=
  if p0 = 0 then
  some (1, M)
  else
  if p0 = 1 then
  some (1, M)
  else
  some (0, M)
set_option maxHeartbeats 4000000 in
theorem w_ER_isPlain {K : er_K} {l : Launch} {X : er_X} (cx : er_Cx K l X b_ER_isPlain "EchoedRounds" 1 rm_ER_isPlain) {r : Int × er_Me} {p0 : Int} {T M : er_Me} (rt : er_Rt K X b_ER_isPlain (some .boolean) 0 0 (some (.inl r.1)) T r.2) (h : f_ER_isPlain p0 T M = some r) : er_G K 0 0 T M 0 [(0, .inl p0)] [] := by
  unfold f_ER_isPlain at h
  refine er_iload_n cx d_ER_isPlain_0 0 rfl ?_
  refine er_if_eq (tgt := 9) cx d_ER_isPlain_1 (by decide) (fun b1 => ?_) (fun b1 => ?_)
  · have h := er_ift h b1
    refine er_iconst (v := 1) cx d_ER_isPlain_9 rfl (by decide) ?_
    refine er_goto (tgt := 14) cx d_ER_isPlain_10 (by decide) ?_
    obtain rfl := Option.some.inj h
    exact er_iret rt (Or.inr ⟨rfl, Or.inr rfl⟩) d_ER_isPlain_14 (by decide) (by decide) ⟨rfl, rfl, rfl⟩
  · have h := er_iff h b1
    refine er_iload_n cx d_ER_isPlain_4 0 rfl ?_
    refine er_iconst (v := 1) cx d_ER_isPlain_5 rfl (by decide) ?_
    refine er_ic_ne (tgt := 13) cx d_ER_isPlain_6 (by decide) (fun b3 => ?_) (fun b3 => ?_)
    · have h := er_iff h b3
      refine er_iconst (v := 0) cx d_ER_isPlain_13 rfl (by decide) ?_
      obtain rfl := Option.some.inj h
      exact er_iret rt (Or.inr ⟨rfl, Or.inl rfl⟩) d_ER_isPlain_14 (by decide) (by decide) ⟨rfl, rfl, rfl⟩
    · have h := er_ift h b3
      refine er_iconst (v := 1) cx d_ER_isPlain_9 rfl (by decide) ?_
      refine er_goto (tgt := 14) cx d_ER_isPlain_10 (by decide) ?_
      obtain rfl := Option.some.inj h
      exact er_iret rt (Or.inr ⟨rfl, Or.inr rfl⟩) d_ER_isPlain_14 (by decide) (by decide) ⟨rfl, rfl, rfl⟩
theorem c_ER_isPlain {l : Launch} {X : er_X} {r : Int × er_Me} {p0 : Int} {T M : er_Me} (h : f_ER_isPlain p0 T M = some r) (hok : ∀ v ∈ ([.inl p0] : List er_V), er_ok v) : er_Ct l X y_ER_isPlain b_ER_isPlain 1 (some .boolean) rm_ER_isPlain [.inl p0] T M (some (.inl r.1)) T r.2 :=
  er_ct rfl rfl (Nat.le_of_ble_eq_true rfl) hok (fun K cx rt hin => w_ER_isPlain cx rt h)
/-! ER_codeOf -/
abbrev rm_ER_codeOf : Room := { frames := 0, cells := 0, slots := 0, locals := 0 }
def f_ER_codeOf (p0 p1 p2 p3 : Int) (T M : er_Me) : Option (Int × er_Me) :=
  some (er_add (er_add (er_add (er_mul 1000 p1) (er_mul 100 p2)) (er_mul 10 p0)) p3, M)
set_option maxHeartbeats 4000000 in
theorem w_ER_codeOf {K : er_K} {l : Launch} {X : er_X} (cx : er_Cx K l X b_ER_codeOf "EchoedRounds" 4 rm_ER_codeOf) {r : Int × er_Me} {p0 p1 p2 p3 : Int} {T M : er_Me} (rt : er_Rt K X b_ER_codeOf (some .int) 0 0 (some (.inl r.1)) T r.2) (h : f_ER_codeOf p0 p1 p2 p3 T M = some r) : er_G K 0 0 T M 0 [(0, .inl p0), (1, .inl p1), (2, .inl p2), (3, .inl p3)] [] := by
  unfold f_ER_codeOf at h
  refine er_sipush (v := 1000) cx d_ER_codeOf_0 (by decide +kernel) (by decide) ?_
  refine er_iload_n cx d_ER_codeOf_3 1 rfl ?_
  refine er_imul cx d_ER_codeOf_4 ?_
  refine er_bipush (v := 100) cx d_ER_codeOf_5 (by decide +kernel) (by decide) ?_
  refine er_iload_n cx d_ER_codeOf_7 2 rfl ?_
  refine er_imul cx d_ER_codeOf_8 ?_
  refine er_iadd cx d_ER_codeOf_9 ?_
  refine er_bipush (v := 10) cx d_ER_codeOf_10 (by decide +kernel) (by decide) ?_
  refine er_iload_n cx d_ER_codeOf_12 0 rfl ?_
  refine er_imul cx d_ER_codeOf_13 ?_
  refine er_iadd cx d_ER_codeOf_14 ?_
  refine er_iload_n cx d_ER_codeOf_15 3 rfl ?_
  refine er_iadd cx d_ER_codeOf_16 ?_
  obtain rfl := Option.some.inj h
  exact er_iret rt (Or.inl rfl) d_ER_codeOf_17 (by decide) (by decide) ⟨rfl, rfl, rfl⟩
theorem c_ER_codeOf {l : Launch} {X : er_X} {r : Int × er_Me} {p0 p1 p2 p3 : Int} {T M : er_Me} (h : f_ER_codeOf p0 p1 p2 p3 T M = some r) (hok : ∀ v ∈ ([.inl p0, .inl p1, .inl p2, .inl p3] : List er_V), er_ok v) : er_Ct l X y_ER_codeOf b_ER_codeOf 4 (some .int) rm_ER_codeOf [.inl p0, .inl p1, .inl p2, .inl p3] T M (some (.inl r.1)) T r.2 :=
  er_ct rfl rfl (Nat.le_of_ble_eq_true rfl) hok (fun K cx rt hin => w_ER_codeOf cx rt h)
/-! Log_append -/
abbrev rm_Log_append : Room := { frames := 0, cells := 0, slots := 0, locals := 0 }
def f_Log_append (p0 p1 : Int) (T M : er_Me) : Option (er_Me) :=
  if T p0 (-2) = 4 then
  if 0 < T p0 0 then
  if T (T p0 0) (-2) = 101 then
  if T (T p0 0) (-1) ≤ M p0 1 then
  some M
  else
  if 0 ≤ M p0 1 ∧ M p0 1 < T (T p0 0) (-1) then
  er_le (er_up M (T p0 0) (M p0 1) p1) fun M7 =>
  er_le (er_up M7 p0 1 (er_add (M7 p0 1) 1)) fun M9 =>
  some M9 else none else none else none else none
set_option maxHeartbeats 4000000 in
theorem w_Log_append {K : er_K} {l : Launch} {X : er_X} (cx : er_Cx K l X b_Log_append "EchoedRounds$Log" 2 rm_Log_append) {r : er_Me} {p0 p1 : Int} {T M : er_Me} (rt : er_Rt K X b_Log_append (none) 0 0 none T r) (h : f_Log_append p0 p1 T M = some r) : er_G K 0 0 T M 0 [(0, .inr p0), (1, .inl p1)] [] := by
  unfold f_Log_append at h
  refine er_aload_n cx d_Log_append_0 0 rfl ?_
  obtain ⟨c1, h⟩ := er_ck h
  refine er_geti cx d_Log_append_1 fd_Log_15 c1 ?_
  refine er_aload_n cx d_Log_append_4 0 rfl ?_
  obtain ⟨c2, h⟩ := er_ck h
  refine er_getr cx d_Log_append_5 fd_Log_9 c1 c2 ?_
  obtain ⟨c3, h⟩ := er_ck h
  refine er_alen cx d_Log_append_8 c3 (by decide) ?_
  refine er_ic_ge (tgt := 32) cx d_Log_append_9 (by decide) (fun b4 => ?_) (fun b4 => ?_)
  · have h := er_ift h b4
    obtain rfl := Option.some.inj h
    exact er_vret rt d_Log_append_32 (by decide) (by decide) ⟨rfl, rfl, rfl⟩
  · have h := er_iff h b4
    refine er_aload_n cx d_Log_append_12 0 rfl ?_
    refine er_getr cx d_Log_append_13 fd_Log_9 c1 c2 ?_
    refine er_aload_n cx d_Log_append_16 0 rfl ?_
    refine er_geti cx d_Log_append_17 fd_Log_15 c1 ?_
    refine er_iload_n cx d_Log_append_20 1 rfl ?_
    obtain ⟨c7, h⟩ := er_ck h
    obtain ⟨M7, e7, h⟩ := er_lel h
    refine er_iast cx d_Log_append_21 c3 c7.1 c7.2 e7 ?_
    refine er_aload_n cx d_Log_append_22 0 rfl ?_
    refine er_dup cx d_Log_append_23 ?_
    refine er_geti cx d_Log_append_24 fd_Log_15 c1 ?_
    refine er_iconst (v := 1) cx d_Log_append_27 rfl (by decide) ?_
    refine er_iadd cx d_Log_append_28 ?_
    obtain ⟨M9, e9, h⟩ := er_lel h
    refine er_puti cx d_Log_append_29 fd_Log_15 c1 (fun q => by cases q) e9 ?_
    obtain rfl := Option.some.inj h
    exact er_vret rt d_Log_append_32 (by decide) (by decide) ⟨rfl, rfl, rfl⟩
theorem c_Log_append {l : Launch} {X : er_X} {r : er_Me} {p0 p1 : Int} {T M : er_Me} (h : f_Log_append p0 p1 T M = some r) (hok : ∀ v ∈ ([.inr p0, .inl p1] : List er_V), er_ok v) : er_Ct l X y_Log_append b_Log_append 2 (none) rm_Log_append [.inr p0, .inl p1] T M none T r :=
  er_ct rfl rfl (Nat.le_of_ble_eq_true rfl) hok (fun K cx rt hin => w_Log_append cx rt h)
/-! Log_codeAt -/
abbrev rm_Log_codeAt : Room := { frames := 0, cells := 0, slots := 0, locals := 0 }
def f_Log_codeAt (p0 p1 : Int) (T M : er_Me) : Option (Int × er_Me) :=
  if p1 < 0 then
  some ((-1), M)
  else
  if T p0 (-2) = 4 then
  if M p0 1 ≤ p1 then
  some ((-1), M)
  else
  if 0 < T p0 0 then
  if T (T p0 0) (-2) = 101 ∧ 0 ≤ p1 ∧ p1 < T (T p0 0) (-1) then
  some (M (T p0 0) p1, M) else none else none else none
set_option maxHeartbeats 4000000 in
theorem w_Log_codeAt {K : er_K} {l : Launch} {X : er_X} (cx : er_Cx K l X b_Log_codeAt "EchoedRounds$Log" 2 rm_Log_codeAt) {r : Int × er_Me} {p0 p1 : Int} {T M : er_Me} (rt : er_Rt K X b_Log_codeAt (some .int) 0 0 (some (.inl r.1)) T r.2) (h : f_Log_codeAt p0 p1 T M = some r) : er_G K 0 0 T M 0 [(0, .inr p0), (1, .inl p1)] [] := by
  unfold f_Log_codeAt at h
  refine er_iload_n cx d_Log_codeAt_0 1 rfl ?_
  refine er_if_lt (tgt := 21) cx d_Log_codeAt_1 (by decide) (fun b1 => ?_) (fun b1 => ?_)
  · have h := er_ift h b1
    refine er_iconst (v := -1) cx d_Log_codeAt_21 rfl (by decide) ?_
    obtain rfl := Option.some.inj h
    exact er_iret rt (Or.inl rfl) d_Log_codeAt_22 (by decide) (by decide) ⟨rfl, rfl, rfl⟩
  · have h := er_iff h b1
    refine er_iload_n cx d_Log_codeAt_4 1 rfl ?_
    refine er_aload_n cx d_Log_codeAt_5 0 rfl ?_
    obtain ⟨c3, h⟩ := er_ck h
    refine er_geti cx d_Log_codeAt_6 fd_Log_15 c3 ?_
    refine er_ic_ge (tgt := 21) cx d_Log_codeAt_9 (by decide) (fun b4 => ?_) (fun b4 => ?_)
    · have h := er_ift h b4
      refine er_iconst (v := -1) cx d_Log_codeAt_21 rfl (by decide) ?_
      obtain rfl := Option.some.inj h
      exact er_iret rt (Or.inl rfl) d_Log_codeAt_22 (by decide) (by decide) ⟨rfl, rfl, rfl⟩
    · have h := er_iff h b4
      refine er_aload_n cx d_Log_codeAt_12 0 rfl ?_
      obtain ⟨c6, h⟩ := er_ck h
      refine er_getr cx d_Log_codeAt_13 fd_Log_9 c3 c6 ?_
      refine er_iload_n cx d_Log_codeAt_16 1 rfl ?_
      obtain ⟨c7, h⟩ := er_ck h
      refine er_iald cx d_Log_codeAt_17 c7.1 c7.2.1 c7.2.2 ?_
      refine er_goto (tgt := 22) cx d_Log_codeAt_18 (by decide) ?_
      obtain rfl := Option.some.inj h
      exact er_iret rt (Or.inl rfl) d_Log_codeAt_22 (by decide) (by decide) ⟨rfl, rfl, rfl⟩
theorem c_Log_codeAt {l : Launch} {X : er_X} {r : Int × er_Me} {p0 p1 : Int} {T M : er_Me} (h : f_Log_codeAt p0 p1 T M = some r) (hok : ∀ v ∈ ([.inr p0, .inl p1] : List er_V), er_ok v) : er_Ct l X y_Log_codeAt b_Log_codeAt 2 (some .int) rm_Log_codeAt [.inr p0, .inl p1] T M (some (.inl r.1)) T r.2 :=
  er_ct rfl rfl (Nat.le_of_ble_eq_true rfl) hok (fun K cx rt hin => w_Log_codeAt cx rt h)
/-! ER_cellOf -/
abbrev rm_ER_cellOf : Room := { frames := 0, cells := 0, slots := 0, locals := 0 }
def f_ER_cellOf (p0 p1 : Int) (T M : er_Me) : Option (Int × er_Me) :=
  some (er_add (er_mul p0 7) p1, M)
set_option maxHeartbeats 4000000 in
theorem w_ER_cellOf {K : er_K} {l : Launch} {X : er_X} (cx : er_Cx K l X b_ER_cellOf "EchoedRounds" 2 rm_ER_cellOf) {r : Int × er_Me} {p0 p1 : Int} {T M : er_Me} (rt : er_Rt K X b_ER_cellOf (some .int) 0 0 (some (.inl r.1)) T r.2) (h : f_ER_cellOf p0 p1 T M = some r) : er_G K 0 0 T M 0 [(0, .inl p0), (1, .inl p1)] [] := by
  unfold f_ER_cellOf at h
  refine er_iload_n cx d_ER_cellOf_0 0 rfl ?_
  refine er_bipush (v := 7) cx d_ER_cellOf_1 (by decide +kernel) (by decide) ?_
  refine er_imul cx d_ER_cellOf_3 ?_
  refine er_iload_n cx d_ER_cellOf_4 1 rfl ?_
  refine er_iadd cx d_ER_cellOf_5 ?_
  obtain rfl := Option.some.inj h
  exact er_iret rt (Or.inl rfl) d_ER_cellOf_6 (by decide) (by decide) ⟨rfl, rfl, rfl⟩
theorem c_ER_cellOf {l : Launch} {X : er_X} {r : Int × er_Me} {p0 p1 : Int} {T M : er_Me} (h : f_ER_cellOf p0 p1 T M = some r) (hok : ∀ v ∈ ([.inl p0, .inl p1] : List er_V), er_ok v) : er_Ct l X y_ER_cellOf b_ER_cellOf 2 (some .int) rm_ER_cellOf [.inl p0, .inl p1] T M (some (.inl r.1)) T r.2 :=
  er_ct rfl rfl (Nat.le_of_ble_eq_true rfl) hok (fun K cx rt hin => w_ER_cellOf cx rt h)
/-! Tally_countIn -/
abbrev rm_Tally_countIn : Room := { frames := 0, cells := 0, slots := 0, locals := 0 }
def f_Tally_countIn (p0 p1 p2 p3 p4 : Int) (T M : er_Me) : Option (Int × er_Me) :=
  er_le (er_add (er_mul p2 63) p3) fun x1 =>
  if T p0 (-2) = 5 ∧ 0 < T p0 0 then
  if T (T p0 0) (-2) = 101 ∧ 0 ≤ x1 ∧ x1 < T (T p0 0) (-1) then
  if er_and (er_shr (M (T p0 0) x1) p1) 1 = 0 then
  er_le (er_up M (T p0 0) x1 (er_or (M (T p0 0) x1) (er_shl 1 p1))) fun M7 =>
  if 0 < T p0 1 then
  if T (T p0 1) (-2) = 101 ∧ 0 ≤ er_add (er_mul x1 4) p4 ∧ er_add (er_mul x1 4) p4 < T (T p0 1) (-1) then
  er_le (er_up M7 (T p0 1) (er_add (er_mul x1 4) p4) (er_add (M7 (T p0 1) (er_add (er_mul x1 4) p4)) 1)) fun M10 =>
  some (1, M10) else none else none
  else
  some (0, M) else none else none
set_option maxHeartbeats 4000000 in
theorem w_Tally_countIn {K : er_K} {l : Launch} {X : er_X} (cx : er_Cx K l X b_Tally_countIn "EchoedRounds$Tally" 6 rm_Tally_countIn) {r : Int × er_Me} {p0 p1 p2 p3 p4 : Int} {T M : er_Me} (rt : er_Rt K X b_Tally_countIn (some .boolean) 0 0 (some (.inl r.1)) T r.2) (h : f_Tally_countIn p0 p1 p2 p3 p4 T M = some r) : er_G K 0 0 T M 0 [(0, .inr p0), (1, .inl p1), (2, .inl p2), (3, .inl p3), (4, .inl p4)] [] := by
  unfold f_Tally_countIn at h
  refine er_iload_n cx d_Tally_countIn_0 2 rfl ?_
  refine er_bipush (v := 63) cx d_Tally_countIn_1 (by decide +kernel) (by decide) ?_
  refine er_imul cx d_Tally_countIn_3 ?_
  refine er_iload_n cx d_Tally_countIn_4 3 rfl ?_
  refine er_iadd cx d_Tally_countIn_5 ?_
  obtain ⟨x1, e1, h⟩ := er_lel h
  refine er_nm e1 ?_
  refine er_istore cx d_Tally_countIn_6 (by decide) rfl ?_
  refine er_aload_n cx d_Tally_countIn_8 1 rfl ?_
  obtain ⟨c2, h⟩ := er_ck h
  refine er_getr cx d_Tally_countIn_9 fd_Tally_9 c2.1 c2.2 ?_
  refine er_iload cx d_Tally_countIn_12 0 rfl ?_
  obtain ⟨c3, h⟩ := er_ck h
  refine er_iald cx d_Tally_countIn_14 c3.1 c3.2.1 c3.2.2 ?_
  refine er_iload_n cx d_Tally_countIn_15 2 rfl ?_
  refine er_ishr cx d_Tally_countIn_16 ?_
  refine er_iconst (v := 1) cx d_Tally_countIn_17 rfl (by decide) ?_
  refine er_iand cx d_Tally_countIn_18 ?_
  refine er_if_eq (tgt := 24) cx d_Tally_countIn_19 (by decide) (fun b4 => ?_) (fun b4 => ?_)
  · have h := er_ift h b4
    refine er_aload_n cx d_Tally_countIn_24 1 rfl ?_
    refine er_getr cx d_Tally_countIn_25 fd_Tally_9 c2.1 c2.2 ?_
    refine er_iload cx d_Tally_countIn_28 0 rfl ?_
    refine er_dup2 cx d_Tally_countIn_30 ?_
    refine er_iald cx d_Tally_countIn_31 c3.1 c3.2.1 c3.2.2 ?_
    refine er_iconst (v := 1) cx d_Tally_countIn_32 rfl (by decide) ?_
    refine er_iload_n cx d_Tally_countIn_33 2 rfl ?_
    refine er_ishl cx d_Tally_countIn_34 ?_
    refine er_ior cx d_Tally_countIn_35 ?_
    obtain ⟨M7, e7, h⟩ := er_lel h
    refine er_iast cx d_Tally_countIn_36 c3.1 c3.2.1 c3.2.2 e7 ?_
    refine er_aload_n cx d_Tally_countIn_37 1 rfl ?_
    obtain ⟨c8, h⟩ := er_ck h
    refine er_getr cx d_Tally_countIn_38 fd_Tally_15 c2.1 c8 ?_
    refine er_iload cx d_Tally_countIn_41 0 rfl ?_
    refine er_iconst (v := 4) cx d_Tally_countIn_43 rfl (by decide) ?_
    refine er_imul cx d_Tally_countIn_44 ?_
    refine er_iload cx d_Tally_countIn_45 5 rfl ?_
    refine er_iadd cx d_Tally_countIn_47 ?_
    refine er_dup2 cx d_Tally_countIn_48 ?_
    obtain ⟨c9, h⟩ := er_ck h
    refine er_iald cx d_Tally_countIn_49 c9.1 c9.2.1 c9.2.2 ?_
    refine er_iconst (v := 1) cx d_Tally_countIn_50 rfl (by decide) ?_
    refine er_iadd cx d_Tally_countIn_51 ?_
    obtain ⟨M10, e10, h⟩ := er_lel h
    refine er_iast cx d_Tally_countIn_52 c9.1 c9.2.1 c9.2.2 e10 ?_
    refine er_iconst (v := 1) cx d_Tally_countIn_53 rfl (by decide) ?_
    obtain rfl := Option.some.inj h
    exact er_iret rt (Or.inr ⟨rfl, Or.inr rfl⟩) d_Tally_countIn_54 (by decide) (by decide) ⟨rfl, rfl, rfl⟩
  · have h := er_iff h b4
    refine er_iconst (v := 0) cx d_Tally_countIn_22 rfl (by decide) ?_
    obtain rfl := Option.some.inj h
    exact er_iret rt (Or.inr ⟨rfl, Or.inl rfl⟩) d_Tally_countIn_23 (by decide) (by decide) ⟨rfl, rfl, rfl⟩
theorem c_Tally_countIn {l : Launch} {X : er_X} {r : Int × er_Me} {p0 p1 p2 p3 p4 : Int} {T M : er_Me} (h : f_Tally_countIn p0 p1 p2 p3 p4 T M = some r) (hok : ∀ v ∈ ([.inr p0, .inl p1, .inl p2, .inl p3, .inl p4] : List er_V), er_ok v) : er_Ct l X y_Tally_countIn b_Tally_countIn 6 (some .boolean) rm_Tally_countIn [.inr p0, .inl p1, .inl p2, .inl p3, .inl p4] T M (some (.inl r.1)) T r.2 :=
  er_ct rfl rfl (Nat.le_of_ble_eq_true rfl) hok (fun K cx rt hin => w_Tally_countIn cx rt h)
/-! Tally_count -/
abbrev rm_Tally_count : Room := { frames := 0, cells := 0, slots := 0, locals := 0 }
def f_Tally_count (p0 p1 p2 p3 : Int) (T M : er_Me) : Option (Int × er_Me) :=
  if T p0 (-2) = 5 ∧ 0 < T p0 1 then
  if T (T p0 1) (-2) = 101 ∧ 0 ≤ er_add (er_mul (er_add (er_mul p1 63) p2) 4) p3 ∧ er_add (er_mul (er_add (er_mul p1 63) p2) 4) p3 < T (T p0 1) (-1) then
  some (M (T p0 1) (er_add (er_mul (er_add (er_mul p1 63) p2) 4) p3), M) else none else none
set_option maxHeartbeats 4000000 in
theorem w_Tally_count {K : er_K} {l : Launch} {X : er_X} (cx : er_Cx K l X b_Tally_count "EchoedRounds$Tally" 4 rm_Tally_count) {r : Int × er_Me} {p0 p1 p2 p3 : Int} {T M : er_Me} (rt : er_Rt K X b_Tally_count (some .int) 0 0 (some (.inl r.1)) T r.2) (h : f_Tally_count p0 p1 p2 p3 T M = some r) : er_G K 0 0 T M 0 [(0, .inr p0), (1, .inl p1), (2, .inl p2), (3, .inl p3)] [] := by
  unfold f_Tally_count at h
  refine er_aload_n cx d_Tally_count_0 0 rfl ?_
  obtain ⟨c1, h⟩ := er_ck h
  refine er_getr cx d_Tally_count_1 fd_Tally_15 c1.1 c1.2 ?_
  refine er_iload_n cx d_Tally_count_4 1 rfl ?_
  refine er_bipush (v := 63) cx d_Tally_count_5 (by decide +kernel) (by decide) ?_
  refine er_imul cx d_Tally_count_7 ?_
  refine er_iload_n cx d_Tally_count_8 2 rfl ?_
  refine er_iadd cx d_Tally_count_9 ?_
  refine er_iconst (v := 4) cx d_Tally_count_10 rfl (by decide) ?_
  refine er_imul cx d_Tally_count_11 ?_
  refine er_iload_n cx d_Tally_count_12 3 rfl ?_
  refine er_iadd cx d_Tally_count_13 ?_
  obtain ⟨c2, h⟩ := er_ck h
  refine er_iald cx d_Tally_count_14 c2.1 c2.2.1 c2.2.2 ?_
  obtain rfl := Option.some.inj h
  exact er_iret rt (Or.inl rfl) d_Tally_count_15 (by decide) (by decide) ⟨rfl, rfl, rfl⟩
theorem c_Tally_count {l : Launch} {X : er_X} {r : Int × er_Me} {p0 p1 p2 p3 : Int} {T M : er_Me} (h : f_Tally_count p0 p1 p2 p3 T M = some r) (hok : ∀ v ∈ ([.inr p0, .inl p1, .inl p2, .inl p3] : List er_V), er_ok v) : er_Ct l X y_Tally_count b_Tally_count 4 (some .int) rm_Tally_count [.inr p0, .inl p1, .inl p2, .inl p3] T M (some (.inl r.1)) T r.2 :=
  er_ct rfl rfl (Nat.le_of_ble_eq_true rfl) hok (fun K cx rt hin => w_Tally_count cx rt h)
/-! Row_holds -/
abbrev rm_Row_holds : Room := { frames := 0, cells := 0, slots := 0, locals := 0 }
def f_Row_holds_2_b (self : Int → Int → Int → er_Me → Option (Int × er_Me)) (v0 v1 v2 : Int) (T M : er_Me) : Option (Int × er_Me) :=
  if T v0 (-2) = 6 then
  if M v0 3 ≤ v2 then
  some (0, M)
  else
  if 0 < T v0 0 then
  if T (T v0 0) (-2) = 101 ∧ 0 ≤ v2 ∧ v2 < T (T v0 0) (-1) then
  if M (T v0 0) v2 = v1 then
  some (1, M)
  else
  er_le (er_add v2 1) fun x7 =>
  self v0 v1 x7 M else none else none else none
def f_Row_holds_2 : Nat → er_Me → Int → Int → Int → er_Me → Option (Int × er_Me)
  | 0, _ => fun _ _ _ _ => none
  | n + 1, T => fun v0 v1 v2 M => f_Row_holds_2_b (f_Row_holds_2 n T) v0 v1 v2 T M
set_option maxHeartbeats 4000000 in
theorem w_Row_holds_2_b {K : er_K} {l : Launch} {X : er_X} (cx : er_Cx K l X b_Row_holds "EchoedRounds$Row" 3 rm_Row_holds) {r : Int × er_Me} {T : er_Me} (rt : er_Rt K X b_Row_holds (some .boolean) 0 0 (some (.inl r.1)) T r.2) {self : Int → Int → Int → er_Me → Option (Int × er_Me)} (hself : ∀ (v0 v1 v2 : Int) (M : er_Me), self v0 v1 v2 M = some r → er_G K 0 0 T M 2 [(0, .inr v0), (1, .inl v1), (2, .inl v2)] []) : ∀ (v0 v1 v2 : Int) (M : er_Me), f_Row_holds_2_b self v0 v1 v2 T M = some r → er_G K 0 0 T M 2 [(0, .inr v0), (1, .inl v1), (2, .inl v2)] [] := by
  intro v0 v1 v2 M h
  unfold f_Row_holds_2_b at h
  refine er_iload_n cx d_Row_holds_2 2 rfl ?_
  refine er_aload_n cx d_Row_holds_3 0 rfl ?_
  obtain ⟨c1, h⟩ := er_ck h
  refine er_geti cx d_Row_holds_4 fd_Row_21 c1 ?_
  refine er_ic_ge (tgt := 28) cx d_Row_holds_7 (by decide) (fun b2 => ?_) (fun b2 => ?_)
  · have h := er_ift h b2
    refine er_iconst (v := 0) cx d_Row_holds_28 rfl (by decide) ?_
    obtain rfl := Option.some.inj h
    exact er_iret rt (Or.inr ⟨rfl, Or.inl rfl⟩) d_Row_holds_29 (by decide) (by decide) ⟨rfl, rfl, rfl⟩
  · have h := er_iff h b2
    refine er_aload_n cx d_Row_holds_10 0 rfl ?_
    obtain ⟨c4, h⟩ := er_ck h
    refine er_getr cx d_Row_holds_11 fd_Row_9 c1 c4 ?_
    refine er_iload_n cx d_Row_holds_14 2 rfl ?_
    obtain ⟨c5, h⟩ := er_ck h
    refine er_iald cx d_Row_holds_15 c5.1 c5.2.1 c5.2.2 ?_
    refine er_iload_n cx d_Row_holds_16 1 rfl ?_
    refine er_ic_ne (tgt := 22) cx d_Row_holds_17 (by decide) (fun b6 => ?_) (fun b6 => ?_)
    · have h := er_iff h b6
      obtain ⟨x7, e7, h⟩ := er_lel h
      refine er_iinc cx d_Row_holds_22 (k := 2) rfl (by decide) e7 rfl ?_
      refine er_goto (tgt := 2) cx d_Row_holds_25 (by decide) ?_
      refine er_sb cx [1, 2, 0] rfl ?_
      exact hself _ _ _ _ h
    · have h := er_ift h b6
      refine er_iconst (v := 1) cx d_Row_holds_20 rfl (by decide) ?_
      obtain rfl := Option.some.inj h
      exact er_iret rt (Or.inr ⟨rfl, Or.inr rfl⟩) d_Row_holds_21 (by decide) (by decide) ⟨rfl, rfl, rfl⟩
theorem w_Row_holds_2 {K : er_K} {l : Launch} {X : er_X} (cx : er_Cx K l X b_Row_holds "EchoedRounds$Row" 3 rm_Row_holds) {r : Int × er_Me} {T : er_Me} (rt : er_Rt K X b_Row_holds (some .boolean) 0 0 (some (.inl r.1)) T r.2) : ∀ n : Nat, ∀ (v0 v1 v2 : Int) (M : er_Me), f_Row_holds_2 n T v0 v1 v2 M = some r → er_G K 0 0 T M 2 [(0, .inr v0), (1, .inl v1), (2, .inl v2)] [] := by
  intro n
  induction n with
  | zero =>
    intro v0 v1 v2 M h
    cases h
  | succ n ih =>
    intro v0 v1 v2 M h
    exact w_Row_holds_2_b cx rt ih v0 v1 v2 M h
def f_Row_holds (p0 p1 : Int) (T M : er_Me) : Option (Int × er_Me) :=
  f_Row_holds_2 er_fu T p0 p1 0 M
set_option maxHeartbeats 4000000 in
theorem w_Row_holds {K : er_K} {l : Launch} {X : er_X} (cx : er_Cx K l X b_Row_holds "EchoedRounds$Row" 3 rm_Row_holds) {r : Int × er_Me} {p0 p1 : Int} {T M : er_Me} (rt : er_Rt K X b_Row_holds (some .boolean) 0 0 (some (.inl r.1)) T r.2) (h : f_Row_holds p0 p1 T M = some r) : er_G K 0 0 T M 0 [(0, .inr p0), (1, .inl p1)] [] := by
  unfold f_Row_holds at h
  refine er_iconst (v := 0) cx d_Row_holds_0 rfl (by decide) ?_
  refine er_istore_n cx d_Row_holds_1 rfl (by decide) rfl ?_
  refine er_sb cx [1, 2, 0] rfl ?_
  exact w_Row_holds_2 cx rt er_fu _ _ _ _ h
theorem c_Row_holds {l : Launch} {X : er_X} {r : Int × er_Me} {p0 p1 : Int} {T M : er_Me} (h : f_Row_holds p0 p1 T M = some r) (hok : ∀ v ∈ ([.inr p0, .inl p1] : List er_V), er_ok v) : er_Ct l X y_Row_holds b_Row_holds 3 (some .boolean) rm_Row_holds [.inr p0, .inl p1] T M (some (.inl r.1)) T r.2 :=
  er_ct rfl rfl (Nat.le_of_ble_eq_true rfl) hok (fun K cx rt hin => w_Row_holds cx rt h)
/-! Rules_isFull -/
abbrev rm_Rules_isFull : Room := { frames := 0, cells := 0, slots := 0, locals := 0 }
def f_Rules_isFull (p0 p1 : Int) (T M : er_Me) : Option (Int × er_Me) :=
  if T p1 (-2) = 6 then
  if T p0 (-2) = 2 then
  if M p1 3 < M p0 2 then
  some (0, M)
  else
  some (1, M) else none else none
set_option maxHeartbeats 4000000 in
theorem w_Rules_isFull {K : er_K} {l : Launch} {X : er_X} (cx : er_Cx K l X b_Rules_isFull "EchoedRounds$Rules" 2 rm_Rules_isFull) {r : Int × er_Me} {p0 p1 : Int} {T M : er_Me} (rt : er_Rt K X b_Rules_isFull (some .boolean) 0 0 (some (.inl r.1)) T r.2) (h : f_Rules_isFull p0 p1 T M = some r) : er_G K 0 0 T M 0 [(0, .inr p0), (1, .inr p1)] [] := by
  unfold f_Rules_isFull at h
  refine er_aload_n cx d_Rules_isFull_0 1 rfl ?_
  obtain ⟨c1, h⟩ := er_ck h
  refine er_geti cx d_Rules_isFull_1 fd_Rules_24 c1 ?_
  refine er_aload_n cx d_Rules_isFull_4 0 rfl ?_
  obtain ⟨c2, h⟩ := er_ck h
  refine er_geti cx d_Rules_isFull_5 fd_Rules_18 c2 ?_
  refine er_ic_lt (tgt := 15) cx d_Rules_isFull_8 (by decide) (fun b3 => ?_) (fun b3 => ?_)
  · have h := er_ift h b3
    refine er_iconst (v := 0) cx d_Rules_isFull_15 rfl (by decide) ?_
    obtain rfl := Option.some.inj h
    exact er_iret rt (Or.inr ⟨rfl, Or.inl rfl⟩) d_Rules_isFull_16 (by decide) (by decide) ⟨rfl, rfl, rfl⟩
  · have h := er_iff h b3
    refine er_iconst (v := 1) cx d_Rules_isFull_11 rfl (by decide) ?_
    refine er_goto (tgt := 16) cx d_Rules_isFull_12 (by decide) ?_
    obtain rfl := Option.some.inj h
    exact er_iret rt (Or.inr ⟨rfl, Or.inr rfl⟩) d_Rules_isFull_16 (by decide) (by decide) ⟨rfl, rfl, rfl⟩
theorem c_Rules_isFull {l : Launch} {X : er_X} {r : Int × er_Me} {p0 p1 : Int} {T M : er_Me} (h : f_Rules_isFull p0 p1 T M = some r) (hok : ∀ v ∈ ([.inr p0, .inr p1] : List er_V), er_ok v) : er_Ct l X y_Rules_isFull b_Rules_isFull 2 (some .boolean) rm_Rules_isFull [.inr p0, .inr p1] T M (some (.inl r.1)) T r.2 :=
  er_ct rfl rfl (Nat.le_of_ble_eq_true rfl) hok (fun K cx rt hin => w_Rules_isFull cx rt h)
/-! Rules_mostChosen -/
abbrev rm_Rules_mostChosen : Room := { frames := 1, cells := 0, slots := 0, locals := 21 }
def f_Rules_mostChosen (p0 p1 p2 : Int) (T M : er_Me) : Option (Int × er_Me) :=
  if T p1 (-2) = 6 ∧ 0 < T p1 2 then
  if T (T p1 2) (-2) = 101 ∧ 0 ≤ p2 ∧ p2 < T (T p1 2) (-1) then
  if T p0 (-2) = 2 then
  some (er_min (M (T p1 2) p2) (M p0 2), M) else none else none else none
set_option maxHeartbeats 4000000 in
theorem w_Rules_mostChosen {K : er_K} {l : Launch} {X : er_X} (cx : er_Cx K l X b_Rules_mostChosen "EchoedRounds$Rules" 3 rm_Rules_mostChosen) {r : Int × er_Me} {p0 p1 p2 : Int} {T M : er_Me} (rt : er_Rt K X b_Rules_mostChosen (some .int) 0 0 (some (.inl r.1)) T r.2) (h : f_Rules_mostChosen p0 p1 p2 T M = some r) : er_G K 0 0 T M 0 [(0, .inr p0), (1, .inr p1), (2, .inl p2)] [] := by
  unfold f_Rules_mostChosen at h
  refine er_aload_n cx d_Rules_mostChosen_0 1 rfl ?_
  obtain ⟨c1, h⟩ := er_ck h
  refine er_getr cx d_Rules_mostChosen_1 fd_Rules_58 c1.1 c1.2 ?_
  refine er_iload_n cx d_Rules_mostChosen_4 2 rfl ?_
  obtain ⟨c2, h⟩ := er_ck h
  refine er_iald cx d_Rules_mostChosen_5 c2.1 c2.2.1 c2.2.2 ?_
  refine er_aload_n cx d_Rules_mostChosen_6 0 rfl ?_
  obtain ⟨c3, h⟩ := er_ck h
  refine er_geti cx d_Rules_mostChosen_7 fd_Rules_18 c3 ?_
  refine er_mmin cx d_Rules_mostChosen_10 wm_255 wm_18 wm_2 wm_19 (by decide) (Nat.le_of_ble_eq_true rfl) (by decide) (by decide) ?_
  obtain rfl := Option.some.inj h
  exact er_iret rt (Or.inl rfl) d_Rules_mostChosen_13 (by decide) (by decide) ⟨rfl, rfl, rfl⟩
theorem c_Rules_mostChosen {l : Launch} {X : er_X} {r : Int × er_Me} {p0 p1 p2 : Int} {T M : er_Me} (h : f_Rules_mostChosen p0 p1 p2 T M = some r) (hok : ∀ v ∈ ([.inr p0, .inr p1, .inl p2] : List er_V), er_ok v) : er_Ct l X y_Rules_mostChosen b_Rules_mostChosen 3 (some .int) rm_Rules_mostChosen [.inr p0, .inr p1, .inl p2] T M (some (.inl r.1)) T r.2 :=
  er_ct rfl rfl (Nat.le_of_ble_eq_true rfl) hok (fun K cx rt hin => w_Rules_mostChosen cx rt h)
/-! Rules_isMajority -/
abbrev rm_Rules_isMajority : Room := { frames := 0, cells := 0, slots := 0, locals := 0 }
def f_Rules_isMajority (p0 p1 : Int) (T M : er_Me) : Option (Int × er_Me) :=
  if T p0 (-2) = 2 then
  if er_mul 2 p1 ≤ M p0 0 then
  some (0, M)
  else
  some (1, M) else none
set_option maxHeartbeats 4000000 in
theorem w_Rules_isMajority {K : er_K} {l : Launch} {X : er_X} (cx : er_Cx K l X b_Rules_isMajority "EchoedRounds$Rules" 2 rm_Rules_isMajority) {r : Int × er_Me} {p0 p1 : Int} {T M : er_Me} (rt : er_Rt K X b_Rules_isMajority (some .boolean) 0 0 (some (.inl r.1)) T r.2) (h : f_Rules_isMajority p0 p1 T M = some r) : er_G K 0 0 T M 0 [(0, .inr p0), (1, .inl p1)] [] := by
  unfold f_Rules_isMajority at h
  refine er_iconst (v := 2) cx d_Rules_isMajority_0 rfl (by decide) ?_
  refine er_iload_n cx d_Rules_isMajority_1 1 rfl ?_
  refine er_imul cx d_Rules_isMajority_2 ?_
  refine er_aload_n cx d_Rules_isMajority_3 0 rfl ?_
  obtain ⟨c1, h⟩ := er_ck h
  refine er_geti cx d_Rules_isMajority_4 fd_Rules_9 c1 ?_
  refine er_ic_le (tgt := 14) cx d_Rules_isMajority_7 (by decide) (fun b2 => ?_) (fun b2 => ?_)
  · have h := er_ift h b2
    refine er_iconst (v := 0) cx d_Rules_isMajority_14 rfl (by decide) ?_
    obtain rfl := Option.some.inj h
    exact er_iret rt (Or.inr ⟨rfl, Or.inl rfl⟩) d_Rules_isMajority_15 (by decide) (by decide) ⟨rfl, rfl, rfl⟩
  · have h := er_iff h b2
    refine er_iconst (v := 1) cx d_Rules_isMajority_10 rfl (by decide) ?_
    refine er_goto (tgt := 15) cx d_Rules_isMajority_11 (by decide) ?_
    obtain rfl := Option.some.inj h
    exact er_iret rt (Or.inr ⟨rfl, Or.inr rfl⟩) d_Rules_isMajority_15 (by decide) (by decide) ⟨rfl, rfl, rfl⟩
theorem c_Rules_isMajority {l : Launch} {X : er_X} {r : Int × er_Me} {p0 p1 : Int} {T M : er_Me} (h : f_Rules_isMajority p0 p1 T M = some r) (hok : ∀ v ∈ ([.inr p0, .inl p1] : List er_V), er_ok v) : er_Ct l X y_Rules_isMajority b_Rules_isMajority 2 (some .boolean) rm_Rules_isMajority [.inr p0, .inl p1] T M (some (.inl r.1)) T r.2 :=
  er_ct rfl rfl (Nat.le_of_ble_eq_true rfl) hok (fun K cx rt hin => w_Rules_isMajority cx rt h)
/-! Row_holdsWith -/
abbrev rm_Row_holdsWith : Room := { frames := 0, cells := 0, slots := 0, locals := 0 }
def f_Row_holdsWith_2_b (self : Int → Int → Int → Int → er_Me → Option (Int × er_Me)) (v0 v1 v2 v3 : Int) (T M : er_Me) : Option (Int × er_Me) :=
  if T v0 (-2) = 6 then
  if M v0 3 ≤ v3 then
  some (0, M)
  else
  if 0 < T v0 0 then
  if T (T v0 0) (-2) = 101 ∧ 0 ≤ v3 ∧ v3 < T (T v0 0) (-1) then
  if M (T v0 0) v3 = v1 then
  if 0 < T v0 1 then
  if T (T v0 1) (-2) = 101 ∧ v3 < T (T v0 1) (-1) then
  if M (T v0 1) v3 = v2 then
  some (1, M)
  else
  some (0, M) else none else none
  else
  er_le (er_add v3 1) fun x7 =>
  self v0 v1 v2 x7 M else none else none else none
def f_Row_holdsWith_2 : Nat → er_Me → Int → Int → Int → Int → er_Me → Option (Int × er_Me)
  | 0, _ => fun _ _ _ _ _ => none
  | n + 1, T => fun v0 v1 v2 v3 M => f_Row_holdsWith_2_b (f_Row_holdsWith_2 n T) v0 v1 v2 v3 T M
set_option maxHeartbeats 4000000 in
theorem w_Row_holdsWith_2_b {K : er_K} {l : Launch} {X : er_X} (cx : er_Cx K l X b_Row_holdsWith "EchoedRounds$Row" 4 rm_Row_holdsWith) {r : Int × er_Me} {T : er_Me} (rt : er_Rt K X b_Row_holdsWith (some .boolean) 0 0 (some (.inl r.1)) T r.2) {self : Int → Int → Int → Int → er_Me → Option (Int × er_Me)} (hself : ∀ (v0 v1 v2 v3 : Int) (M : er_Me), self v0 v1 v2 v3 M = some r → er_G K 0 0 T M 2 [(0, .inr v0), (1, .inl v1), (2, .inl v2), (3, .inl v3)] []) : ∀ (v0 v1 v2 v3 : Int) (M : er_Me), f_Row_holdsWith_2_b self v0 v1 v2 v3 T M = some r → er_G K 0 0 T M 2 [(0, .inr v0), (1, .inl v1), (2, .inl v2), (3, .inl v3)] [] := by
  intro v0 v1 v2 v3 M h
  unfold f_Row_holdsWith_2_b at h
  refine er_iload_n cx d_Row_holdsWith_2 3 rfl ?_
  refine er_aload_n cx d_Row_holdsWith_3 0 rfl ?_
  obtain ⟨c1, h⟩ := er_ck h
  refine er_geti cx d_Row_holdsWith_4 fd_Row_21 c1 ?_
  refine er_ic_ge (tgt := 42) cx d_Row_holdsWith_7 (by decide) (fun b2 => ?_) (fun b2 => ?_)
  · have h := er_ift h b2
    refine er_iconst (v := 0) cx d_Row_holdsWith_42 rfl (by decide) ?_
    obtain rfl := Option.some.inj h
    exact er_iret rt (Or.inr ⟨rfl, Or.inl rfl⟩) d_Row_holdsWith_43 (by decide) (by decide) ⟨rfl, rfl, rfl⟩
  · have h := er_iff h b2
    refine er_aload_n cx d_Row_holdsWith_10 0 rfl ?_
    obtain ⟨c4, h⟩ := er_ck h
    refine er_getr cx d_Row_holdsWith_11 fd_Row_9 c1 c4 ?_
    refine er_iload_n cx d_Row_holdsWith_14 3 rfl ?_
    obtain ⟨c5, h⟩ := er_ck h
    refine er_iald cx d_Row_holdsWith_15 c5.1 c5.2.1 c5.2.2 ?_
    refine er_iload_n cx d_Row_holdsWith_16 1 rfl ?_
    refine er_ic_ne (tgt := 36) cx d_Row_holdsWith_17 (by decide) (fun b6 => ?_) (fun b6 => ?_)
    · have h := er_iff h b6
      obtain ⟨x7, e7, h⟩ := er_lel h
      refine er_iinc cx d_Row_holdsWith_36 (k := 3) rfl (by decide) e7 rfl ?_
      refine er_goto (tgt := 2) cx d_Row_holdsWith_39 (by decide) ?_
      refine er_sb cx [1, 2, 3, 0] rfl ?_
      exact hself _ _ _ _ _ h
    · have h := er_ift h b6
      refine er_aload_n cx d_Row_holdsWith_20 0 rfl ?_
      obtain ⟨c8, h⟩ := er_ck h
      refine er_getr cx d_Row_holdsWith_21 fd_Row_15 c1 c8 ?_
      refine er_iload_n cx d_Row_holdsWith_24 3 rfl ?_
      obtain ⟨c9, h⟩ := er_ck h
      refine er_iald cx d_Row_holdsWith_25 c9.1 c5.2.1 c9.2 ?_
      refine er_iload_n cx d_Row_holdsWith_26 2 rfl ?_
      refine er_ic_ne (tgt := 34) cx d_Row_holdsWith_27 (by decide) (fun b10 => ?_) (fun b10 => ?_)
      · have h := er_iff h b10
        refine er_iconst (v := 0) cx d_Row_holdsWith_34 rfl (by decide) ?_
        obtain rfl := Option.some.inj h
        exact er_iret rt (Or.inr ⟨rfl, Or.inl rfl⟩) d_Row_holdsWith_35 (by decide) (by decide) ⟨rfl, rfl, rfl⟩
      · have h := er_ift h b10
        refine er_iconst (v := 1) cx d_Row_holdsWith_30 rfl (by decide) ?_
        refine er_goto (tgt := 35) cx d_Row_holdsWith_31 (by decide) ?_
        obtain rfl := Option.some.inj h
        exact er_iret rt (Or.inr ⟨rfl, Or.inr rfl⟩) d_Row_holdsWith_35 (by decide) (by decide) ⟨rfl, rfl, rfl⟩
theorem w_Row_holdsWith_2 {K : er_K} {l : Launch} {X : er_X} (cx : er_Cx K l X b_Row_holdsWith "EchoedRounds$Row" 4 rm_Row_holdsWith) {r : Int × er_Me} {T : er_Me} (rt : er_Rt K X b_Row_holdsWith (some .boolean) 0 0 (some (.inl r.1)) T r.2) : ∀ n : Nat, ∀ (v0 v1 v2 v3 : Int) (M : er_Me), f_Row_holdsWith_2 n T v0 v1 v2 v3 M = some r → er_G K 0 0 T M 2 [(0, .inr v0), (1, .inl v1), (2, .inl v2), (3, .inl v3)] [] := by
  intro n
  induction n with
  | zero =>
    intro v0 v1 v2 v3 M h
    cases h
  | succ n ih =>
    intro v0 v1 v2 v3 M h
    exact w_Row_holdsWith_2_b cx rt ih v0 v1 v2 v3 M h
def f_Row_holdsWith (p0 p1 p2 : Int) (T M : er_Me) : Option (Int × er_Me) :=
  f_Row_holdsWith_2 er_fu T p0 p1 p2 0 M
set_option maxHeartbeats 4000000 in
theorem w_Row_holdsWith {K : er_K} {l : Launch} {X : er_X} (cx : er_Cx K l X b_Row_holdsWith "EchoedRounds$Row" 4 rm_Row_holdsWith) {r : Int × er_Me} {p0 p1 p2 : Int} {T M : er_Me} (rt : er_Rt K X b_Row_holdsWith (some .boolean) 0 0 (some (.inl r.1)) T r.2) (h : f_Row_holdsWith p0 p1 p2 T M = some r) : er_G K 0 0 T M 0 [(0, .inr p0), (1, .inl p1), (2, .inl p2)] [] := by
  unfold f_Row_holdsWith at h
  refine er_iconst (v := 0) cx d_Row_holdsWith_0 rfl (by decide) ?_
  refine er_istore_n cx d_Row_holdsWith_1 rfl (by decide) rfl ?_
  refine er_sb cx [1, 2, 3, 0] rfl ?_
  exact w_Row_holdsWith_2 cx rt er_fu _ _ _ _ _ h
theorem c_Row_holdsWith {l : Launch} {X : er_X} {r : Int × er_Me} {p0 p1 p2 : Int} {T M : er_Me} (h : f_Row_holdsWith p0 p1 p2 T M = some r) (hok : ∀ v ∈ ([.inr p0, .inl p1, .inl p2] : List er_V), er_ok v) : er_Ct l X y_Row_holdsWith b_Row_holdsWith 4 (some .boolean) rm_Row_holdsWith [.inr p0, .inl p1, .inl p2] T M (some (.inl r.1)) T r.2 :=
  er_ct rfl rfl (Nat.le_of_ble_eq_true rfl) hok (fun K cx rt hin => w_Row_holdsWith cx rt h)
/-! Rules_canStayDivided -/
abbrev rm_Rules_canStayDivided : Room := { frames := 1, cells := 0, slots := 0, locals := 21 }
def f_Rules_canStayDivided (p0 p1 : Int) (T M : er_Me) : Option (Int × er_Me) :=
  if T p1 (-2) = 6 ∧ 0 < T p1 2 then
  if T (T p1 2) (-2) = 101 ∧ 0 < T (T p1 2) (-1) then
  if T p0 (-2) = 2 then
  er_le (er_min (M (T p1 2) 0) (er_div (M p0 0) 2)) fun x5 =>
  if 1 < T (T p1 2) (-1) then
  er_le (er_min (M (T p1 2) 1) (er_div (M p0 0) 2)) fun x10 =>
  if er_add x5 x10 < M p0 2 then
  some (0, M)
  else
  some (1, M) else none else none else none else none
set_option maxHeartbeats 4000000 in
theorem w_Rules_canStayDivided {K : er_K} {l : Launch} {X : er_X} (cx : er_Cx K l X b_Rules_canStayDivided "EchoedRounds$Rules" 4 rm_Rules_canStayDivided) {r : Int × er_Me} {p0 p1 : Int} {T M : er_Me} (rt : er_Rt K X b_Rules_canStayDivided (some .boolean) 0 0 (some (.inl r.1)) T r.2) (h : f_Rules_canStayDivided p0 p1 T M = some r) : er_G K 0 0 T M 0 [(0, .inr p0), (1, .inr p1)] [] := by
  unfold f_Rules_canStayDivided at h
  refine er_aload_n cx d_Rules_canStayDivided_0 1 rfl ?_
  obtain ⟨c1, h⟩ := er_ck h
  refine er_getr cx d_Rules_canStayDivided_1 fd_Rules_58 c1.1 c1.2 ?_
  refine er_iconst (v := 0) cx d_Rules_canStayDivided_4 rfl (by decide) ?_
  obtain ⟨c2, h⟩ := er_ck h
  refine er_iald cx d_Rules_canStayDivided_5 c2.1 (by decide) c2.2 ?_
  refine er_aload_n cx d_Rules_canStayDivided_6 0 rfl ?_
  obtain ⟨c3, h⟩ := er_ck h
  refine er_geti cx d_Rules_canStayDivided_7 fd_Rules_9 c3 ?_
  refine er_iconst (v := 2) cx d_Rules_canStayDivided_10 rfl (by decide) ?_
  refine er_idiv cx d_Rules_canStayDivided_11 (by decide) ?_
  refine er_mmin cx d_Rules_canStayDivided_12 wm_255 wm_18 wm_2 wm_19 (by decide) (Nat.le_of_ble_eq_true rfl) (by decide) (by decide) ?_
  obtain ⟨x5, e5, h⟩ := er_lel h
  refine er_nm e5 ?_
  refine er_istore_n cx d_Rules_canStayDivided_15 rfl (by decide) rfl ?_
  refine er_aload_n cx d_Rules_canStayDivided_16 2 rfl ?_
  refine er_getr cx d_Rules_canStayDivided_17 fd_Rules_58 c1.1 c1.2 ?_
  refine er_iconst (v := 1) cx d_Rules_canStayDivided_20 rfl (by decide) ?_
  obtain ⟨c7, h⟩ := er_ck h
  refine er_iald cx d_Rules_canStayDivided_21 c2.1 (by decide) c7 ?_
  refine er_aload_n cx d_Rules_canStayDivided_22 1 rfl ?_
  refine er_geti cx d_Rules_canStayDivided_23 fd_Rules_9 c3 ?_
  refine er_iconst (v := 2) cx d_Rules_canStayDivided_26 rfl (by decide) ?_
  refine er_idiv cx d_Rules_canStayDivided_27 (by decide) ?_
  refine er_mmin cx d_Rules_canStayDivided_28 wm_255 wm_18 wm_2 wm_19 (by decide) (Nat.le_of_ble_eq_true rfl) (by decide) (by decide) ?_
  obtain ⟨x10, e10, h⟩ := er_lel h
  refine er_nm e10 ?_
  refine er_istore_n cx d_Rules_canStayDivided_31 rfl (by decide) rfl ?_
  refine er_iload_n cx d_Rules_canStayDivided_32 1 rfl ?_
  refine er_iload_n cx d_Rules_canStayDivided_33 0 rfl ?_
  refine er_iadd cx d_Rules_canStayDivided_34 ?_
  refine er_aload_n cx d_Rules_canStayDivided_35 2 rfl ?_
  refine er_geti cx d_Rules_canStayDivided_36 fd_Rules_18 c3 ?_
  refine er_ic_lt (tgt := 46) cx d_Rules_canStayDivided_39 (by decide) (fun b12 => ?_) (fun b12 => ?_)
  · have h := er_ift h b12
    refine er_iconst (v := 0) cx d_Rules_canStayDivided_46 rfl (by decide) ?_
    obtain rfl := Option.some.inj h
    exact er_iret rt (Or.inr ⟨rfl, Or.inl rfl⟩) d_Rules_canStayDivided_47 (by decide) (by decide) ⟨rfl, rfl, rfl⟩
  · have h := er_iff h b12
    refine er_iconst (v := 1) cx d_Rules_canStayDivided_42 rfl (by decide) ?_
    refine er_goto (tgt := 47) cx d_Rules_canStayDivided_43 (by decide) ?_
    obtain rfl := Option.some.inj h
    exact er_iret rt (Or.inr ⟨rfl, Or.inr rfl⟩) d_Rules_canStayDivided_47 (by decide) (by decide) ⟨rfl, rfl, rfl⟩
theorem c_Rules_canStayDivided {l : Launch} {X : er_X} {r : Int × er_Me} {p0 p1 : Int} {T M : er_Me} (h : f_Rules_canStayDivided p0 p1 T M = some r) (hok : ∀ v ∈ ([.inr p0, .inr p1] : List er_V), er_ok v) : er_Ct l X y_Rules_canStayDivided b_Rules_canStayDivided 4 (some .boolean) rm_Rules_canStayDivided [.inr p0, .inr p1] T M (some (.inl r.1)) T r.2 :=
  er_ct rfl rfl (Nat.le_of_ble_eq_true rfl) hok (fun K cx rt hin => w_Rules_canStayDivided cx rt h)
/-! Rules_canNeedToss -/
abbrev rm_Rules_canNeedToss : Room := { frames := 1, cells := 0, slots := 0, locals := 21 }
def f_Rules_canNeedToss (p0 p1 : Int) (T M : er_Me) : Option (Int × er_Me) :=
  if T p1 (-2) = 6 ∧ 0 < T p1 2 then
  if T (T p1 2) (-2) = 101 ∧ 2 < T (T p1 2) (-1) then
  if T p0 (-2) = 2 then
  er_le (er_min (M (T p1 2) 2) (M p0 1)) fun x5 =>
  if 3 < T (T p1 2) (-1) then
  er_le (er_min (M (T p1 2) 3) (M p0 1)) fun x10 =>
  if 0 < T (T p1 2) (-1) then
  if 1 < T (T p1 2) (-1) then
  if er_add (er_add (er_add (M (T p1 2) 0) (M (T p1 2) 1)) x5) x10 < M p0 2 then
  some (0, M)
  else
  some (1, M) else none else none else none else none else none else none
set_option maxHeartbeats 4000000 in
theorem w_Rules_canNeedToss {K : er_K} {l : Launch} {X : er_X} (cx : er_Cx K l X b_Rules_canNeedToss "EchoedRounds$Rules" 4 rm_Rules_canNeedToss) {r : Int × er_Me} {p0 p1 : Int} {T M : er_Me} (rt : er_Rt K X b_Rules_canNeedToss (some .boolean) 0 0 (some (.inl r.1)) T r.2) (h : f_Rules_canNeedToss p0 p1 T M = some r) : er_G K 0 0 T M 0 [(0, .inr p0), (1, .inr p1)] [] := by
  unfold f_Rules_canNeedToss at h
  refine er_aload_n cx d_Rules_canNeedToss_0 1 rfl ?_
  obtain ⟨c1, h⟩ := er_ck h
  refine er_getr cx d_Rules_canNeedToss_1 fd_Rules_58 c1.1 c1.2 ?_
  refine er_iconst (v := 2) cx d_Rules_canNeedToss_4 rfl (by decide) ?_
  obtain ⟨c2, h⟩ := er_ck h
  refine er_iald cx d_Rules_canNeedToss_5 c2.1 (by decide) c2.2 ?_
  refine er_aload_n cx d_Rules_canNeedToss_6 0 rfl ?_
  obtain ⟨c3, h⟩ := er_ck h
  refine er_geti cx d_Rules_canNeedToss_7 fd_Rules_15 c3 ?_
  refine er_mmin cx d_Rules_canNeedToss_10 wm_255 wm_18 wm_2 wm_19 (by decide) (Nat.le_of_ble_eq_true rfl) (by decide) (by decide) ?_
  obtain ⟨x5, e5, h⟩ := er_lel h
  refine er_nm e5 ?_
  refine er_istore_n cx d_Rules_canNeedToss_13 rfl (by decide) rfl ?_
  refine er_aload_n cx d_Rules_canNeedToss_14 2 rfl ?_
  refine er_getr cx d_Rules_canNeedToss_15 fd_Rules_58 c1.1 c1.2 ?_
  refine er_iconst (v := 3) cx d_Rules_canNeedToss_18 rfl (by decide) ?_
  obtain ⟨c7, h⟩ := er_ck h
  refine er_iald cx d_Rules_canNeedToss_19 c2.1 (by decide) c7 ?_
  refine er_aload_n cx d_Rules_canNeedToss_20 1 rfl ?_
  refine er_geti cx d_Rules_canNeedToss_21 fd_Rules_15 c3 ?_
  refine er_mmin cx d_Rules_canNeedToss_24 wm_255 wm_18 wm_2 wm_19 (by decide) (Nat.le_of_ble_eq_true rfl) (by decide) (by decide) ?_
  obtain ⟨x10, e10, h⟩ := er_lel h
  refine er_nm e10 ?_
  refine er_istore_n cx d_Rules_canNeedToss_27 rfl (by decide) rfl ?_
  refine er_aload_n cx d_Rules_canNeedToss_28 3 rfl ?_
  refine er_getr cx d_Rules_canNeedToss_29 fd_Rules_58 c1.1 c1.2 ?_
  refine er_iconst (v := 0) cx d_Rules_canNeedToss_32 rfl (by decide) ?_
  obtain ⟨c12, h⟩ := er_ck h
  refine er_iald cx d_Rules_canNeedToss_33 c2.1 (by decide) c12 ?_
  refine er_aload_n cx d_Rules_canNeedToss_34 3 rfl ?_
  refine er_getr cx d_Rules_canNeedToss_35 fd_Rules_58 c1.1 c1.2 ?_
  refine er_iconst (v := 1) cx d_Rules_canNeedToss_38 rfl (by decide) ?_
  obtain ⟨c14, h⟩ := er_ck h
  refine er_iald cx d_Rules_canNeedToss_39 c2.1 (by decide) c14 ?_
  refine er_iadd cx d_Rules_canNeedToss_40 ?_
  refine er_iload_n cx d_Rules_canNeedToss_41 1 rfl ?_
  refine er_iadd cx d_Rules_canNeedToss_42 ?_
  refine er_iload_n cx d_Rules_canNeedToss_43 0 rfl ?_
  refine er_iadd cx d_Rules_canNeedToss_44 ?_
  refine er_aload_n cx d_Rules_canNeedToss_45 2 rfl ?_
  refine er_geti cx d_Rules_canNeedToss_46 fd_Rules_18 c3 ?_
  refine er_ic_lt (tgt := 56) cx d_Rules_canNeedToss_49 (by decide) (fun b16 => ?_) (fun b16 => ?_)
  · have h := er_ift h b16
    refine er_iconst (v := 0) cx d_Rules_canNeedToss_56 rfl (by decide) ?_
    obtain rfl := Option.some.inj h
    exact er_iret rt (Or.inr ⟨rfl, Or.inl rfl⟩) d_Rules_canNeedToss_57 (by decide) (by decide) ⟨rfl, rfl, rfl⟩
  · have h := er_iff h b16
    refine er_iconst (v := 1) cx d_Rules_canNeedToss_52 rfl (by decide) ?_
    refine er_goto (tgt := 57) cx d_Rules_canNeedToss_53 (by decide) ?_
    obtain rfl := Option.some.inj h
    exact er_iret rt (Or.inr ⟨rfl, Or.inr rfl⟩) d_Rules_canNeedToss_57 (by decide) (by decide) ⟨rfl, rfl, rfl⟩
theorem c_Rules_canNeedToss {l : Launch} {X : er_X} {r : Int × er_Me} {p0 p1 : Int} {T M : er_Me} (h : f_Rules_canNeedToss p0 p1 T M = some r) (hok : ∀ v ∈ ([.inr p0, .inr p1] : List er_V), er_ok v) : er_Ct l X y_Rules_canNeedToss b_Rules_canNeedToss 4 (some .boolean) rm_Rules_canNeedToss [.inr p0, .inr p1] T M (some (.inl r.1)) T r.2 :=
  er_ct rfl rfl (Nat.le_of_ble_eq_true rfl) hok (fun K cx rt hin => w_Rules_canNeedToss cx rt h)
/-! Row_append -/
abbrev rm_Row_append : Room := { frames := 0, cells := 0, slots := 0, locals := 0 }
def f_Row_append (p0 p1 p2 : Int) (T M : er_Me) : Option (er_Me) :=
  if T p0 (-2) = 6 then
  if 0 < T p0 0 then
  if T (T p0 0) (-2) = 101 then
  if T (T p0 0) (-1) ≤ M p0 3 then
  some M
  else
  if 0 ≤ M p0 3 ∧ M p0 3 < T (T p0 0) (-1) then
  er_le (er_up M (T p0 0) (M p0 3) p1) fun M7 =>
  if 0 < T p0 1 then
  if T (T p0 1) (-2) = 101 ∧ 0 ≤ M7 p0 3 ∧ M7 p0 3 < T (T p0 1) (-1) then
  er_le (er_up M7 (T p0 1) (M7 p0 3) p2) fun M10 =>
  if 0 < T p0 2 then
  if T (T p0 2) (-2) = 101 ∧ 0 ≤ p2 ∧ p2 < T (T p0 2) (-1) then
  er_le (er_up M10 (T p0 2) p2 (er_add (M10 (T p0 2) p2) 1)) fun M13 =>
  er_le (er_up M13 p0 3 (er_add (M13 p0 3) 1)) fun M15 =>
  some M15 else none else none else none else none else none else none else none else none
set_option maxHeartbeats 4000000 in
theorem w_Row_append {K : er_K} {l : Launch} {X : er_X} (cx : er_Cx K l X b_Row_append "EchoedRounds$Row" 3 rm_Row_append) {r : er_Me} {p0 p1 p2 : Int} {T M : er_Me} (rt : er_Rt K X b_Row_append (none) 0 0 none T r) (h : f_Row_append p0 p1 p2 T M = some r) : er_G K 0 0 T M 0 [(0, .inr p0), (1, .inl p1), (2, .inl p2)] [] := by
  unfold f_Row_append at h
  refine er_aload_n cx d_Row_append_0 0 rfl ?_
  obtain ⟨c1, h⟩ := er_ck h
  refine er_geti cx d_Row_append_1 fd_Row_21 c1 ?_
  refine er_aload_n cx d_Row_append_4 0 rfl ?_
  obtain ⟨c2, h⟩ := er_ck h
  refine er_getr cx d_Row_append_5 fd_Row_9 c1 c2 ?_
  obtain ⟨c3, h⟩ := er_ck h
  refine er_alen cx d_Row_append_8 c3 (by decide) ?_
  refine er_ic_ge (tgt := 52) cx d_Row_append_9 (by decide) (fun b4 => ?_) (fun b4 => ?_)
  · have h := er_ift h b4
    obtain rfl := Option.some.inj h
    exact er_vret rt d_Row_append_52 (by decide) (by decide) ⟨rfl, rfl, rfl⟩
  · have h := er_iff h b4
    refine er_aload_n cx d_Row_append_12 0 rfl ?_
    refine er_getr cx d_Row_append_13 fd_Row_9 c1 c2 ?_
    refine er_aload_n cx d_Row_append_16 0 rfl ?_
    refine er_geti cx d_Row_append_17 fd_Row_21 c1 ?_
    refine er_iload_n cx d_Row_append_20 1 rfl ?_
    obtain ⟨c7, h⟩ := er_ck h
    obtain ⟨M7, e7, h⟩ := er_lel h
    refine er_iast cx d_Row_append_21 c3 c7.1 c7.2 e7 ?_
    refine er_aload_n cx d_Row_append_22 0 rfl ?_
    obtain ⟨c8, h⟩ := er_ck h
    refine er_getr cx d_Row_append_23 fd_Row_15 c1 c8 ?_
    refine er_aload_n cx d_Row_append_26 0 rfl ?_
    refine er_geti cx d_Row_append_27 fd_Row_21 c1 ?_
    refine er_iload_n cx d_Row_append_30 2 rfl ?_
    obtain ⟨c10, h⟩ := er_ck h
    obtain ⟨M10, e10, h⟩ := er_lel h
    refine er_iast cx d_Row_append_31 c10.1 c10.2.1 c10.2.2 e10 ?_
    refine er_aload_n cx d_Row_append_32 0 rfl ?_
    obtain ⟨c11, h⟩ := er_ck h
    refine er_getr cx d_Row_append_33 fd_Row_18 c1 c11 ?_
    refine er_iload_n cx d_Row_append_36 2 rfl ?_
    refine er_dup2 cx d_Row_append_37 ?_
    obtain ⟨c12, h⟩ := er_ck h
    refine er_iald cx d_Row_append_38 c12.1 c12.2.1 c12.2.2 ?_
    refine er_iconst (v := 1) cx d_Row_append_39 rfl (by decide) ?_
    refine er_iadd cx d_Row_append_40 ?_
    obtain ⟨M13, e13, h⟩ := er_lel h
    refine er_iast cx d_Row_append_41 c12.1 c12.2.1 c12.2.2 e13 ?_
    refine er_aload_n cx d_Row_append_42 0 rfl ?_
    refine er_dup cx d_Row_append_43 ?_
    refine er_geti cx d_Row_append_44 fd_Row_21 c1 ?_
    refine er_iconst (v := 1) cx d_Row_append_47 rfl (by decide) ?_
    refine er_iadd cx d_Row_append_48 ?_
    obtain ⟨M15, e15, h⟩ := er_lel h
    refine er_puti cx d_Row_append_49 fd_Row_21 c1 (fun q => by cases q) e15 ?_
    obtain rfl := Option.some.inj h
    exact er_vret rt d_Row_append_52 (by decide) (by decide) ⟨rfl, rfl, rfl⟩
theorem c_Row_append {l : Launch} {X : er_X} {r : er_Me} {p0 p1 p2 : Int} {T M : er_Me} (h : f_Row_append p0 p1 p2 T M = some r) (hok : ∀ v ∈ ([.inr p0, .inl p1, .inl p2] : List er_V), er_ok v) : er_Ct l X y_Row_append b_Row_append 3 (none) rm_Row_append [.inr p0, .inl p1, .inl p2] T M none T r :=
  er_ct rfl rfl (Nat.le_of_ble_eq_true rfl) hok (fun K cx rt hin => w_Row_append cx rt h)
/-! ER_isSlot -/
abbrev rm_ER_isSlot : Room := { frames := 0, cells := 0, slots := 0, locals := 0 }
def f_ER_isSlot (p0 : Int) (T M : er_Me) : Option (Int × er_Me) :=
  if p0 < 0 then
  some (0, M)
  else
  if 9 ≤ p0 then
  some (0, M)
  else
  some (1, M)
set_option maxHeartbeats 4000000 in
theorem w_ER_isSlot {K : er_K} {l : Launch} {X : er_X} (cx : er_Cx K l X b_ER_isSlot "EchoedRounds" 1 rm_ER_isSlot) {r : Int × er_Me} {p0 : Int} {T M : er_Me} (rt : er_Rt K X b_ER_isSlot (some .boolean) 0 0 (some (.inl r.1)) T r.2) (h : f_ER_isSlot p0 T M = some r) : er_G K 0 0 T M 0 [(0, .inl p0)] [] := by
  unfold f_ER_isSlot at h
  refine er_iload_n cx d_ER_isSlot_0 0 rfl ?_
  refine er_if_lt (tgt := 14) cx d_ER_isSlot_1 (by decide) (fun b1 => ?_) (fun b1 => ?_)
  · have h := er_ift h b1
    refine er_iconst (v := 0) cx d_ER_isSlot_14 rfl (by decide) ?_
    obtain rfl := Option.some.inj h
    exact er_iret rt (Or.inr ⟨rfl, Or.inl rfl⟩) d_ER_isSlot_15 (by decide) (by decide) ⟨rfl, rfl, rfl⟩
  · have h := er_iff h b1
    refine er_iload_n cx d_ER_isSlot_4 0 rfl ?_
    refine er_bipush (v := 9) cx d_ER_isSlot_5 (by decide +kernel) (by decide) ?_
    refine er_ic_ge (tgt := 14) cx d_ER_isSlot_7 (by decide) (fun b3 => ?_) (fun b3 => ?_)
    · have h := er_ift h b3
      refine er_iconst (v := 0) cx d_ER_isSlot_14 rfl (by decide) ?_
      obtain rfl := Option.some.inj h
      exact er_iret rt (Or.inr ⟨rfl, Or.inl rfl⟩) d_ER_isSlot_15 (by decide) (by decide) ⟨rfl, rfl, rfl⟩
    · have h := er_iff h b3
      refine er_iconst (v := 1) cx d_ER_isSlot_10 rfl (by decide) ?_
      refine er_goto (tgt := 15) cx d_ER_isSlot_11 (by decide) ?_
      obtain rfl := Option.some.inj h
      exact er_iret rt (Or.inr ⟨rfl, Or.inr rfl⟩) d_ER_isSlot_15 (by decide) (by decide) ⟨rfl, rfl, rfl⟩
theorem c_ER_isSlot {l : Launch} {X : er_X} {r : Int × er_Me} {p0 : Int} {T M : er_Me} (h : f_ER_isSlot p0 T M = some r) (hok : ∀ v ∈ ([.inl p0] : List er_V), er_ok v) : er_Ct l X y_ER_isSlot b_ER_isSlot 1 (some .boolean) rm_ER_isSlot [.inl p0] T M (some (.inl r.1)) T r.2 :=
  er_ct rfl rfl (Nat.le_of_ble_eq_true rfl) hok (fun K cx rt hin => w_ER_isSlot cx rt h)
/-! Row_countInFirst -/
abbrev rm_Row_countInFirst : Room := { frames := 0, cells := 0, slots := 0, locals := 0 }
def f_Row_countInFirst_5_b (self : Int → Int → Int → Int → Int → er_Me → Option (Int × er_Me)) (v0 v1 v2 v3 v4 : Int) (T M : er_Me) : Option (Int × er_Me) :=
  if v1 ≤ v4 then
  some (v3, M)
  else
  if T v0 (-2) = 6 then
  if M v0 3 ≤ v4 then
  some (v3, M)
  else
  if 0 < T v0 1 then
  if T (T v0 1) (-2) = 101 ∧ 0 ≤ v4 ∧ v4 < T (T v0 1) (-1) then
  if M (T v0 1) v4 = v2 then
  er_le (er_add v3 1) fun x10 =>
  er_le (er_add v4 1) fun x11 =>
  self v0 v1 v2 x10 x11 M
  else
  er_le (er_add v4 1) fun x9 =>
  self v0 v1 v2 v3 x9 M else none else none else none
def f_Row_countInFirst_5 : Nat → er_Me → Int → Int → Int → Int → Int → er_Me → Option (Int × er_Me)
  | 0, _ => fun _ _ _ _ _ _ => none
  | n + 1, T => fun v0 v1 v2 v3 v4 M => f_Row_countInFirst_5_b (f_Row_countInFirst_5 n T) v0 v1 v2 v3 v4 T M
set_option maxHeartbeats 4000000 in
theorem w_Row_countInFirst_5_b {K : er_K} {l : Launch} {X : er_X} (cx : er_Cx K l X b_Row_countInFirst "EchoedRounds$Row" 5 rm_Row_countInFirst) {r : Int × er_Me} {T : er_Me} (rt : er_Rt K X b_Row_countInFirst (some .int) 0 0 (some (.inl r.1)) T r.2) {self : Int → Int → Int → Int → Int → er_Me → Option (Int × er_Me)} (hself : ∀ (v0 v1 v2 v3 v4 : Int) (M : er_Me), self v0 v1 v2 v3 v4 M = some r → er_G K 0 0 T M 5 [(0, .inr v0), (1, .inl v1), (2, .inl v2), (3, .inl v3), (4, .inl v4)] []) : ∀ (v0 v1 v2 v3 v4 : Int) (M : er_Me), f_Row_countInFirst_5_b self v0 v1 v2 v3 v4 T M = some r → er_G K 0 0 T M 5 [(0, .inr v0), (1, .inl v1), (2, .inl v2), (3, .inl v3), (4, .inl v4)] [] := by
  intro v0 v1 v2 v3 v4 M h
  unfold f_Row_countInFirst_5_b at h
  refine er_iload cx d_Row_countInFirst_5 4 rfl ?_
  refine er_iload_n cx d_Row_countInFirst_7 1 rfl ?_
  refine er_ic_ge (tgt := 40) cx d_Row_countInFirst_8 (by decide) (fun b1 => ?_) (fun b1 => ?_)
  · have h := er_ift h b1
    refine er_iload_n cx d_Row_countInFirst_40 3 rfl ?_
    obtain rfl := Option.some.inj h
    exact er_iret rt (Or.inl rfl) d_Row_countInFirst_41 (by decide) (by decide) ⟨rfl, rfl, rfl⟩
  · have h := er_iff h b1
    refine er_iload cx d_Row_countInFirst_11 4 rfl ?_
    refine er_aload_n cx d_Row_countInFirst_13 0 rfl ?_
    obtain ⟨c3, h⟩ := er_ck h
    refine er_geti cx d_Row_countInFirst_14 fd_Row_21 c3 ?_
    refine er_ic_ge (tgt := 40) cx d_Row_countInFirst_17 (by decide) (fun b4 => ?_) (fun b4 => ?_)
    · have h := er_ift h b4
      refine er_iload_n cx d_Row_countInFirst_40 3 rfl ?_
      obtain rfl := Option.some.inj h
      exact er_iret rt (Or.inl rfl) d_Row_countInFirst_41 (by decide) (by decide) ⟨rfl, rfl, rfl⟩
    · have h := er_iff h b4
      refine er_aload_n cx d_Row_countInFirst_20 0 rfl ?_
      obtain ⟨c6, h⟩ := er_ck h
      refine er_getr cx d_Row_countInFirst_21 fd_Row_15 c3 c6 ?_
      refine er_iload cx d_Row_countInFirst_24 4 rfl ?_
      obtain ⟨c7, h⟩ := er_ck h
      refine er_iald cx d_Row_countInFirst_26 c7.1 c7.2.1 c7.2.2 ?_
      refine er_iload_n cx d_Row_countInFirst_27 2 rfl ?_
      refine er_ic_ne (tgt := 34) cx d_Row_countInFirst_28 (by decide) (fun b8 => ?_) (fun b8 => ?_)
      · have h := er_iff h b8
        obtain ⟨x9, e9, h⟩ := er_lel h
        refine er_iinc cx d_Row_countInFirst_34 (k := 4) rfl (by decide) e9 rfl ?_
        refine er_goto (tgt := 5) cx d_Row_countInFirst_37 (by decide) ?_
        refine er_sb cx [1, 2, 3, 4, 0] rfl ?_
        exact hself _ _ _ _ _ _ h
      · have h := er_ift h b8
        obtain ⟨x10, e10, h⟩ := er_lel h
        refine er_iinc cx d_Row_countInFirst_31 (k := 3) rfl (by decide) e10 rfl ?_
        obtain ⟨x11, e11, h⟩ := er_lel h
        refine er_iinc cx d_Row_countInFirst_34 (k := 4) rfl (by decide) e11 rfl ?_
        refine er_goto (tgt := 5) cx d_Row_countInFirst_37 (by decide) ?_
        refine er_sb cx [2, 3, 4, 1, 0] rfl ?_
        exact hself _ _ _ _ _ _ h
theorem w_Row_countInFirst_5 {K : er_K} {l : Launch} {X : er_X} (cx : er_Cx K l X b_Row_countInFirst "EchoedRounds$Row" 5 rm_Row_countInFirst) {r : Int × er_Me} {T : er_Me} (rt : er_Rt K X b_Row_countInFirst (some .int) 0 0 (some (.inl r.1)) T r.2) : ∀ n : Nat, ∀ (v0 v1 v2 v3 v4 : Int) (M : er_Me), f_Row_countInFirst_5 n T v0 v1 v2 v3 v4 M = some r → er_G K 0 0 T M 5 [(0, .inr v0), (1, .inl v1), (2, .inl v2), (3, .inl v3), (4, .inl v4)] [] := by
  intro n
  induction n with
  | zero =>
    intro v0 v1 v2 v3 v4 M h
    cases h
  | succ n ih =>
    intro v0 v1 v2 v3 v4 M h
    exact w_Row_countInFirst_5_b cx rt ih v0 v1 v2 v3 v4 M h
def f_Row_countInFirst (p0 p1 p2 : Int) (T M : er_Me) : Option (Int × er_Me) :=
  f_Row_countInFirst_5 er_fu T p0 p1 p2 0 0 M
set_option maxHeartbeats 4000000 in
theorem w_Row_countInFirst {K : er_K} {l : Launch} {X : er_X} (cx : er_Cx K l X b_Row_countInFirst "EchoedRounds$Row" 5 rm_Row_countInFirst) {r : Int × er_Me} {p0 p1 p2 : Int} {T M : er_Me} (rt : er_Rt K X b_Row_countInFirst (some .int) 0 0 (some (.inl r.1)) T r.2) (h : f_Row_countInFirst p0 p1 p2 T M = some r) : er_G K 0 0 T M 0 [(0, .inr p0), (1, .inl p1), (2, .inl p2)] [] := by
  unfold f_Row_countInFirst at h
  refine er_iconst (v := 0) cx d_Row_countInFirst_0 rfl (by decide) ?_
  refine er_istore_n cx d_Row_countInFirst_1 rfl (by decide) rfl ?_
  refine er_iconst (v := 0) cx d_Row_countInFirst_2 rfl (by decide) ?_
  refine er_istore cx d_Row_countInFirst_3 (by decide) rfl ?_
  refine er_sb cx [2, 3, 4, 1, 0] rfl ?_
  exact w_Row_countInFirst_5 cx rt er_fu _ _ _ _ _ _ h
theorem c_Row_countInFirst {l : Launch} {X : er_X} {r : Int × er_Me} {p0 p1 p2 : Int} {T M : er_Me} (h : f_Row_countInFirst p0 p1 p2 T M = some r) (hok : ∀ v ∈ ([.inr p0, .inl p1, .inl p2] : List er_V), er_ok v) : er_Ct l X y_Row_countInFirst b_Row_countInFirst 5 (some .int) rm_Row_countInFirst [.inr p0, .inl p1, .inl p2] T M (some (.inl r.1)) T r.2 :=
  er_ct rfl rfl (Nat.le_of_ble_eq_true rfl) hok (fun K cx rt hin => w_Row_countInFirst cx rt h)
/-! Row_speakerAt -/
abbrev rm_Row_speakerAt : Room := { frames := 0, cells := 0, slots := 0, locals := 0 }
def f_Row_speakerAt (p0 p1 : Int) (T M : er_Me) : Option (Int × er_Me) :=
  if p1 < 0 then
  some ((-1), M)
  else
  if T p0 (-2) = 6 then
  if M p0 3 ≤ p1 then
  some ((-1), M)
  else
  if 0 < T p0 0 then
  if T (T p0 0) (-2) = 101 ∧ 0 ≤ p1 ∧ p1 < T (T p0 0) (-1) then
  some (M (T p0 0) p1, M) else none else none else none
set_option maxHeartbeats 4000000 in
theorem w_Row_speakerAt {K : er_K} {l : Launch} {X : er_X} (cx : er_Cx K l X b_Row_speakerAt "EchoedRounds$Row" 2 rm_Row_speakerAt) {r : Int × er_Me} {p0 p1 : Int} {T M : er_Me} (rt : er_Rt K X b_Row_speakerAt (some .int) 0 0 (some (.inl r.1)) T r.2) (h : f_Row_speakerAt p0 p1 T M = some r) : er_G K 0 0 T M 0 [(0, .inr p0), (1, .inl p1)] [] := by
  unfold f_Row_speakerAt at h
  refine er_iload_n cx d_Row_speakerAt_0 1 rfl ?_
  refine er_if_lt (tgt := 21) cx d_Row_speakerAt_1 (by decide) (fun b1 => ?_) (fun b1 => ?_)
  · have h := er_ift h b1
    refine er_iconst (v := -1) cx d_Row_speakerAt_21 rfl (by decide) ?_
    obtain rfl := Option.some.inj h
    exact er_iret rt (Or.inl rfl) d_Row_speakerAt_22 (by decide) (by decide) ⟨rfl, rfl, rfl⟩
  · have h := er_iff h b1
    refine er_iload_n cx d_Row_speakerAt_4 1 rfl ?_
    refine er_aload_n cx d_Row_speakerAt_5 0 rfl ?_
    obtain ⟨c3, h⟩ := er_ck h
    refine er_geti cx d_Row_speakerAt_6 fd_Row_21 c3 ?_
    refine er_ic_ge (tgt := 21) cx d_Row_speakerAt_9 (by decide) (fun b4 => ?_) (fun b4 => ?_)
    · have h := er_ift h b4
      refine er_iconst (v := -1) cx d_Row_speakerAt_21 rfl (by decide) ?_
      obtain rfl := Option.some.inj h
      exact er_iret rt (Or.inl rfl) d_Row_speakerAt_22 (by decide) (by decide) ⟨rfl, rfl, rfl⟩
    · have h := er_iff h b4
      refine er_aload_n cx d_Row_speakerAt_12 0 rfl ?_
      obtain ⟨c6, h⟩ := er_ck h
      refine er_getr cx d_Row_speakerAt_13 fd_Row_9 c3 c6 ?_
      refine er_iload_n cx d_Row_speakerAt_16 1 rfl ?_
      obtain ⟨c7, h⟩ := er_ck h
      refine er_iald cx d_Row_speakerAt_17 c7.1 c7.2.1 c7.2.2 ?_
      refine er_goto (tgt := 22) cx d_Row_speakerAt_18 (by decide) ?_
      obtain rfl := Option.some.inj h
      exact er_iret rt (Or.inl rfl) d_Row_speakerAt_22 (by decide) (by decide) ⟨rfl, rfl, rfl⟩
theorem c_Row_speakerAt {l : Launch} {X : er_X} {r : Int × er_Me} {p0 p1 : Int} {T M : er_Me} (h : f_Row_speakerAt p0 p1 T M = some r) (hok : ∀ v ∈ ([.inr p0, .inl p1] : List er_V), er_ok v) : er_Ct l X y_Row_speakerAt b_Row_speakerAt 2 (some .int) rm_Row_speakerAt [.inr p0, .inl p1] T M (some (.inl r.1)) T r.2 :=
  er_ct rfl rfl (Nat.le_of_ble_eq_true rfl) hok (fun K cx rt hin => w_Row_speakerAt cx rt h)
/-! Rules_canPrevail -/
abbrev rm_Rules_canPrevail : Room := { frames := 2, cells := 0, slots := 0, locals := 43 }
def f_Rules_canPrevail (p0 p1 p2 : Int) (T M : er_Me) : Option (Int × er_Me) :=
  if T p0 (-2) = 2 then
  (f_Rules_mostChosen p0 p1 p2 T M).bind fun q1 =>
  er_le (er_mul 2 q1.1) fun x2 =>
  if q1.2 p0 2 < x2 then
  some (1, q1.2)
  else
  if p2 = 0 then
  if x2 = q1.2 p0 2 then
  some (1, q1.2)
  else
  some (0, q1.2)
  else
  some (0, q1.2) else none
set_option maxHeartbeats 4000000 in
theorem w_Rules_canPrevail {K : er_K} {l : Launch} {X : er_X} (cx : er_Cx K l X b_Rules_canPrevail "EchoedRounds$Rules" 4 rm_Rules_canPrevail) {r : Int × er_Me} {p0 p1 p2 : Int} {T M : er_Me} (rt : er_Rt K X b_Rules_canPrevail (some .boolean) 0 0 (some (.inl r.1)) T r.2) (h : f_Rules_canPrevail p0 p1 p2 T M = some r) : er_G K 0 0 T M 0 [(0, .inr p0), (1, .inr p1), (2, .inl p2)] [] := by
  unfold f_Rules_canPrevail at h
  refine er_iconst (v := 2) cx d_Rules_canPrevail_0 rfl (by decide) ?_
  refine er_aload_n cx d_Rules_canPrevail_1 0 rfl ?_
  refine er_aload_n cx d_Rules_canPrevail_2 1 rfl ?_
  refine er_iload_n cx d_Rules_canPrevail_3 2 rfl ?_
  obtain ⟨c1, h⟩ := er_ck h
  obtain ⟨q1, e1, h⟩ := er_bd h
  refine er_callV (b := p0) (As := [.inr p1, .inl p2]) (st := [.inl 2]) cx (c_Rules_mostChosen e1) my_Rules_33 c1 ⟨by decide, by decide⟩ rfl (Nat.le_of_ble_eq_true rfl) d_Rules_canPrevail_4 ⟨Nat.zero_le _, Nat.zero_le _⟩ rfl ?_
  refine er_imul cx d_Rules_canPrevail_7 ?_
  obtain ⟨x2, e2, h⟩ := er_lel h
  refine er_nm e2 ?_
  refine er_istore_n cx d_Rules_canPrevail_8 rfl (by decide) rfl ?_
  refine er_iload_n cx d_Rules_canPrevail_9 0 rfl ?_
  refine er_aload_n cx d_Rules_canPrevail_10 1 rfl ?_
  refine er_geti cx d_Rules_canPrevail_11 fd_Rules_18 c1 ?_
  refine er_ic_gt (tgt := 29) cx d_Rules_canPrevail_14 (by decide) (fun b4 => ?_) (fun b4 => ?_)
  · have h := er_ift h b4
    refine er_iconst (v := 1) cx d_Rules_canPrevail_29 rfl (by decide) ?_
    refine er_goto (tgt := 34) cx d_Rules_canPrevail_30 (by decide) ?_
    obtain rfl := Option.some.inj h
    exact er_iret rt (Or.inr ⟨rfl, Or.inr rfl⟩) d_Rules_canPrevail_34 (by decide) (by decide) ⟨rfl, rfl, rfl⟩
  · have h := er_iff h b4
    refine er_iload_n cx d_Rules_canPrevail_17 3 rfl ?_
    refine er_if_ne (tgt := 33) cx d_Rules_canPrevail_18 (by decide) (fun b6 => ?_) (fun b6 => ?_)
    · have h := er_iff h b6
      refine er_iconst (v := 0) cx d_Rules_canPrevail_33 rfl (by decide) ?_
      obtain rfl := Option.some.inj h
      exact er_iret rt (Or.inr ⟨rfl, Or.inl rfl⟩) d_Rules_canPrevail_34 (by decide) (by decide) ⟨rfl, rfl, rfl⟩
    · have h := er_ift h b6
      refine er_iload_n cx d_Rules_canPrevail_21 0 rfl ?_
      refine er_aload_n cx d_Rules_canPrevail_22 1 rfl ?_
      refine er_geti cx d_Rules_canPrevail_23 fd_Rules_18 c1 ?_
      refine er_ic_ne (tgt := 33) cx d_Rules_canPrevail_26 (by decide) (fun b9 => ?_) (fun b9 => ?_)
      · have h := er_iff h b9
        refine er_iconst (v := 0) cx d_Rules_canPrevail_33 rfl (by decide) ?_
        obtain rfl := Option.some.inj h
        exact er_iret rt (Or.inr ⟨rfl, Or.inl rfl⟩) d_Rules_canPrevail_34 (by decide) (by decide) ⟨rfl, rfl, rfl⟩
      · have h := er_ift h b9
        refine er_iconst (v := 1) cx d_Rules_canPrevail_29 rfl (by decide) ?_
        refine er_goto (tgt := 34) cx d_Rules_canPrevail_30 (by decide) ?_
        obtain rfl := Option.some.inj h
        exact er_iret rt (Or.inr ⟨rfl, Or.inr rfl⟩) d_Rules_canPrevail_34 (by decide) (by decide) ⟨rfl, rfl, rfl⟩
theorem c_Rules_canPrevail {l : Launch} {X : er_X} {r : Int × er_Me} {p0 p1 p2 : Int} {T M : er_Me} (h : f_Rules_canPrevail p0 p1 p2 T M = some r) (hok : ∀ v ∈ ([.inr p0, .inr p1, .inl p2] : List er_V), er_ok v) : er_Ct l X y_Rules_canPrevail b_Rules_canPrevail 4 (some .boolean) rm_Rules_canPrevail [.inr p0, .inr p1, .inl p2] T M (some (.inl r.1)) T r.2 :=
  er_ct rfl rfl (Nat.le_of_ble_eq_true rfl) hok (fun K cx rt hin => w_Rules_canPrevail cx rt h)
/-! Rules_prevailing -/
abbrev rm_Rules_prevailing : Room := { frames := 1, cells := 0, slots := 0, locals := 24 }
def f_Rules_prevailing (p0 p1 : Int) (T M : er_Me) : Option (Int × er_Me) :=
  if T p0 (-2) = 2 then
  if T p1 (-2) = 6 then
  (f_Row_countInFirst p1 (M p0 2) 1 T M).bind fun q2 =>
  (f_Row_countInFirst p1 (q2.2 p0 2) 0 T q2.2).bind fun q4 =>
  if q2.1 ≤ q4.1 then
  some (0, q4.2)
  else
  some (1, q4.2) else none else none
set_option maxHeartbeats 4000000 in
theorem w_Rules_prevailing {K : er_K} {l : Launch} {X : er_X} (cx : er_Cx K l X b_Rules_prevailing "EchoedRounds$Rules" 2 rm_Rules_prevailing) {r : Int × er_Me} {p0 p1 : Int} {T M : er_Me} (rt : er_Rt K X b_Rules_prevailing (some .int) 0 0 (some (.inl r.1)) T r.2) (h : f_Rules_prevailing p0 p1 T M = some r) : er_G K 0 0 T M 0 [(0, .inr p0), (1, .inr p1)] [] := by
  unfold f_Rules_prevailing at h
  refine er_aload_n cx d_Rules_prevailing_0 1 rfl ?_
  refine er_aload_n cx d_Rules_prevailing_1 0 rfl ?_
  obtain ⟨c1, h⟩ := er_ck h
  refine er_geti cx d_Rules_prevailing_2 fd_Rules_18 c1 ?_
  refine er_iconst (v := 1) cx d_Rules_prevailing_5 rfl (by decide) ?_
  obtain ⟨c2, h⟩ := er_ck h
  obtain ⟨q2, e2, h⟩ := er_bd h
  refine er_callV (b := p1) (As := [.inl (M p0 2), .inl 1]) (st := []) cx (c_Row_countInFirst e2) my_Rules_68 c2 ⟨by decide, by decide⟩ rfl (Nat.le_of_ble_eq_true rfl) d_Rules_prevailing_6 ⟨Nat.zero_le _, Nat.zero_le _⟩ rfl ?_
  refine er_aload_n cx d_Rules_prevailing_9 1 rfl ?_
  refine er_aload_n cx d_Rules_prevailing_10 0 rfl ?_
  refine er_geti cx d_Rules_prevailing_11 fd_Rules_18 c1 ?_
  refine er_iconst (v := 0) cx d_Rules_prevailing_14 rfl (by decide) ?_
  obtain ⟨q4, e4, h⟩ := er_bd h
  refine er_callV (b := p1) (As := [.inl (q2.2 p0 2), .inl 0]) (st := [.inl q2.1]) cx (c_Row_countInFirst e4) my_Rules_68 c2 ⟨by decide, by decide⟩ rfl (Nat.le_of_ble_eq_true rfl) d_Rules_prevailing_15 ⟨Nat.zero_le _, Nat.zero_le _⟩ rfl ?_
  refine er_ic_le (tgt := 25) cx d_Rules_prevailing_18 (by decide) (fun b5 => ?_) (fun b5 => ?_)
  · have h := er_ift h b5
    refine er_iconst (v := 0) cx d_Rules_prevailing_25 rfl (by decide) ?_
    obtain rfl := Option.some.inj h
    exact er_iret rt (Or.inl rfl) d_Rules_prevailing_26 (by decide) (by decide) ⟨rfl, rfl, rfl⟩
  · have h := er_iff h b5
    refine er_iconst (v := 1) cx d_Rules_prevailing_21 rfl (by decide) ?_
    refine er_goto (tgt := 26) cx d_Rules_prevailing_22 (by decide) ?_
    obtain rfl := Option.some.inj h
    exact er_iret rt (Or.inl rfl) d_Rules_prevailing_26 (by decide) (by decide) ⟨rfl, rfl, rfl⟩
theorem c_Rules_prevailing {l : Launch} {X : er_X} {r : Int × er_Me} {p0 p1 : Int} {T M : er_Me} (h : f_Rules_prevailing p0 p1 T M = some r) (hok : ∀ v ∈ ([.inr p0, .inr p1] : List er_V), er_ok v) : er_Ct l X y_Rules_prevailing b_Rules_prevailing 2 (some .int) rm_Rules_prevailing [.inr p0, .inr p1] T M (some (.inl r.1)) T r.2 :=
  er_ct rfl rfl (Nat.le_of_ble_eq_true rfl) hok (fun K cx rt hin => w_Rules_prevailing cx rt h)
/-! Rules_firmOr -/
abbrev rm_Rules_firmOr : Room := { frames := 1, cells := 0, slots := 0, locals := 24 }
def f_Rules_firmOr_2_b (self : Int → Int → Int → Int → er_Me → Option (Int × er_Me)) (v0 v1 v2 v3 : Int) (T M : er_Me) : Option (Int × er_Me) :=
  if 1 < v3 then
  some (v2, M)
  else
  if T v0 (-2) = 2 then
  if T v1 (-2) = 6 then
  (f_Row_countInFirst v1 (M v0 2) v3 T M).bind fun q4 =>
  (f_Rules_isMajority v0 q4.1 T q4.2).bind fun q5 =>
  if q5.1 = 0 then
  er_le (er_add v3 1) fun x7 =>
  self v0 v1 v2 x7 q5.2
  else
  some (er_add v3 2, q5.2) else none else none
def f_Rules_firmOr_2 : Nat → er_Me → Int → Int → Int → Int → er_Me → Option (Int × er_Me)
  | 0, _ => fun _ _ _ _ _ => none
  | n + 1, T => fun v0 v1 v2 v3 M => f_Rules_firmOr_2_b (f_Rules_firmOr_2 n T) v0 v1 v2 v3 T M
set_option maxHeartbeats 4000000 in
theorem w_Rules_firmOr_2_b {K : er_K} {l : Launch} {X : er_X} (cx : er_Cx K l X b_Rules_firmOr "EchoedRounds$Rules" 4 rm_Rules_firmOr) {r : Int × er_Me} {T : er_Me} (rt : er_Rt K X b_Rules_firmOr (some .int) 0 0 (some (.inl r.1)) T r.2) {self : Int → Int → Int → Int → er_Me → Option (Int × er_Me)} (hself : ∀ (v0 v1 v2 v3 : Int) (M : er_Me), self v0 v1 v2 v3 M = some r → er_G K 0 0 T M 2 [(0, .inr v0), (1, .inr v1), (2, .inl v2), (3, .inl v3)] []) : ∀ (v0 v1 v2 v3 : Int) (M : er_Me), f_Rules_firmOr_2_b self v0 v1 v2 v3 T M = some r → er_G K 0 0 T M 2 [(0, .inr v0), (1, .inr v1), (2, .inl v2), (3, .inl v3)] [] := by
  intro v0 v1 v2 v3 M h
  unfold f_Rules_firmOr_2_b at h
  refine er_iload_n cx d_Rules_firmOr_2 3 rfl ?_
  refine er_iconst (v := 1) cx d_Rules_firmOr_3 rfl (by decide) ?_
  refine er_ic_gt (tgt := 33) cx d_Rules_firmOr_4 (by decide) (fun b1 => ?_) (fun b1 => ?_)
  · have h := er_ift h b1
    refine er_iload_n cx d_Rules_firmOr_33 2 rfl ?_
    obtain rfl := Option.some.inj h
    exact er_iret rt (Or.inl rfl) d_Rules_firmOr_34 (by decide) (by decide) ⟨rfl, rfl, rfl⟩
  · have h := er_iff h b1
    refine er_aload_n cx d_Rules_firmOr_7 0 rfl ?_
    refine er_aload_n cx d_Rules_firmOr_8 1 rfl ?_
    refine er_aload_n cx d_Rules_firmOr_9 0 rfl ?_
    obtain ⟨c3, h⟩ := er_ck h
    refine er_geti cx d_Rules_firmOr_10 fd_Rules_18 c3 ?_
    refine er_iload_n cx d_Rules_firmOr_13 3 rfl ?_
    obtain ⟨c4, h⟩ := er_ck h
    obtain ⟨q4, e4, h⟩ := er_bd h
    refine er_callV (b := v1) (As := [.inl (M v0 2), .inl v3]) (st := [.inr v0]) cx (c_Row_countInFirst e4) my_Rules_68 c4 ⟨by decide, by decide⟩ rfl (Nat.le_of_ble_eq_true rfl) d_Rules_firmOr_14 ⟨Nat.zero_le _, Nat.zero_le _⟩ rfl ?_
    obtain ⟨q5, e5, h⟩ := er_bd h
    refine er_callV (b := v0) (As := [.inl q4.1]) (st := []) cx (c_Rules_isMajority e5) my_Rules_37 c3 ⟨by decide, by decide⟩ rfl (Nat.le_of_ble_eq_true rfl) d_Rules_firmOr_17 ⟨Nat.zero_le _, Nat.zero_le _⟩ rfl ?_
    refine er_if_eq (tgt := 27) cx d_Rules_firmOr_20 (by decide) (fun b6 => ?_) (fun b6 => ?_)
    · have h := er_ift h b6
      obtain ⟨x7, e7, h⟩ := er_lel h
      refine er_iinc cx d_Rules_firmOr_27 (k := 3) rfl (by decide) e7 rfl ?_
      refine er_goto (tgt := 2) cx d_Rules_firmOr_30 (by decide) ?_
      refine er_sb cx [1, 2, 3, 0] rfl ?_
      exact hself _ _ _ _ _ h
    · have h := er_iff h b6
      refine er_iload_n cx d_Rules_firmOr_23 3 rfl ?_
      refine er_iconst (v := 2) cx d_Rules_firmOr_24 rfl (by decide) ?_
      refine er_iadd cx d_Rules_firmOr_25 ?_
      obtain rfl := Option.some.inj h
      exact er_iret rt (Or.inl rfl) d_Rules_firmOr_26 (by decide) (by decide) ⟨rfl, rfl, rfl⟩
theorem w_Rules_firmOr_2 {K : er_K} {l : Launch} {X : er_X} (cx : er_Cx K l X b_Rules_firmOr "EchoedRounds$Rules" 4 rm_Rules_firmOr) {r : Int × er_Me} {T : er_Me} (rt : er_Rt K X b_Rules_firmOr (some .int) 0 0 (some (.inl r.1)) T r.2) : ∀ n : Nat, ∀ (v0 v1 v2 v3 : Int) (M : er_Me), f_Rules_firmOr_2 n T v0 v1 v2 v3 M = some r → er_G K 0 0 T M 2 [(0, .inr v0), (1, .inr v1), (2, .inl v2), (3, .inl v3)] [] := by
  intro n
  induction n with
  | zero =>
    intro v0 v1 v2 v3 M h
    cases h
  | succ n ih =>
    intro v0 v1 v2 v3 M h
    exact w_Rules_firmOr_2_b cx rt ih v0 v1 v2 v3 M h
def f_Rules_firmOr (p0 p1 p2 : Int) (T M : er_Me) : Option (Int × er_Me) :=
  f_Rules_firmOr_2 er_fu T p0 p1 p2 0 M
set_option maxHeartbeats 4000000 in
theorem w_Rules_firmOr {K : er_K} {l : Launch} {X : er_X} (cx : er_Cx K l X b_Rules_firmOr "EchoedRounds$Rules" 4 rm_Rules_firmOr) {r : Int × er_Me} {p0 p1 p2 : Int} {T M : er_Me} (rt : er_Rt K X b_Rules_firmOr (some .int) 0 0 (some (.inl r.1)) T r.2) (h : f_Rules_firmOr p0 p1 p2 T M = some r) : er_G K 0 0 T M 0 [(0, .inr p0), (1, .inr p1), (2, .inl p2)] [] := by
  unfold f_Rules_firmOr at h
  refine er_iconst (v := 0) cx d_Rules_firmOr_0 rfl (by decide) ?_
  refine er_istore_n cx d_Rules_firmOr_1 rfl (by decide) rfl ?_
  refine er_sb cx [1, 2, 3, 0] rfl ?_
  exact w_Rules_firmOr_2 cx rt er_fu _ _ _ _ _ h
theorem c_Rules_firmOr {l : Launch} {X : er_X} {r : Int × er_Me} {p0 p1 p2 : Int} {T M : er_Me} (h : f_Rules_firmOr p0 p1 p2 T M = some r) (hok : ∀ v ∈ ([.inr p0, .inr p1, .inl p2] : List er_V), er_ok v) : er_Ct l X y_Rules_firmOr b_Rules_firmOr 4 (some .int) rm_Rules_firmOr [.inr p0, .inr p1, .inl p2] T M (some (.inl r.1)) T r.2 :=
  er_ct rfl rfl (Nat.le_of_ble_eq_true rfl) hok (fun K cx rt hin => w_Rules_firmOr cx rt h)
/-! Rules_heldFirm -/
abbrev rm_Rules_heldFirm : Room := { frames := 1, cells := 0, slots := 0, locals := 24 }
def f_Rules_heldFirm_2_b (self : Int → Int → Int → Int → er_Me → Option (Int × er_Me)) (v0 v1 v2 v3 : Int) (T M : er_Me) : Option (Int × er_Me) :=
  if 1 < v3 then
  some ((-1), M)
  else
  if T v0 (-2) = 2 then
  if T v1 (-2) = 6 then
  (f_Row_countInFirst v1 (M v0 2) (er_add v3 2) T M).bind fun q4 =>
  if q4.1 < v2 then
  er_le (er_add v3 1) fun x6 =>
  self v0 v1 v2 x6 q4.2
  else
  some (v3, q4.2) else none else none
def f_Rules_heldFirm_2 : Nat → er_Me → Int → Int → Int → Int → er_Me → Option (Int × er_Me)
  | 0, _ => fun _ _ _ _ _ => none
  | n + 1, T => fun v0 v1 v2 v3 M => f_Rules_heldFirm_2_b (f_Rules_heldFirm_2 n T) v0 v1 v2 v3 T M
set_option maxHeartbeats 4000000 in
theorem w_Rules_heldFirm_2_b {K : er_K} {l : Launch} {X : er_X} (cx : er_Cx K l X b_Rules_heldFirm "EchoedRounds$Rules" 4 rm_Rules_heldFirm) {r : Int × er_Me} {T : er_Me} (rt : er_Rt K X b_Rules_heldFirm (some .int) 0 0 (some (.inl r.1)) T r.2) {self : Int → Int → Int → Int → er_Me → Option (Int × er_Me)} (hself : ∀ (v0 v1 v2 v3 : Int) (M : er_Me), self v0 v1 v2 v3 M = some r → er_G K 0 0 T M 2 [(0, .inr v0), (1, .inr v1), (2, .inl v2), (3, .inl v3)] []) : ∀ (v0 v1 v2 v3 : Int) (M : er_Me), f_Rules_heldFirm_2_b self v0 v1 v2 v3 T M = some r → er_G K 0 0 T M 2 [(0, .inr v0), (1, .inr v1), (2, .inl v2), (3, .inl v3)] [] := by
  intro v0 v1 v2 v3 M h
  unfold f_Rules_heldFirm_2_b at h
  refine er_iload_n cx d_Rules_heldFirm_2 3 rfl ?_
  refine er_iconst (v := 1) cx d_Rules_heldFirm_3 rfl (by decide) ?_
  refine er_ic_gt (tgt := 30) cx d_Rules_heldFirm_4 (by decide) (fun b1 => ?_) (fun b1 => ?_)
  · have h := er_ift h b1
    refine er_iconst (v := -1) cx d_Rules_heldFirm_30 rfl (by decide) ?_
    obtain rfl := Option.some.inj h
    exact er_iret rt (Or.inl rfl) d_Rules_heldFirm_31 (by decide) (by decide) ⟨rfl, rfl, rfl⟩
  · have h := er_iff h b1
    refine er_aload_n cx d_Rules_heldFirm_7 1 rfl ?_
    refine er_aload_n cx d_Rules_heldFirm_8 0 rfl ?_
    obtain ⟨c3, h⟩ := er_ck h
    refine er_geti cx d_Rules_heldFirm_9 fd_Rules_18 c3 ?_
    refine er_iload_n cx d_Rules_heldFirm_12 3 rfl ?_
    refine er_iconst (v := 2) cx d_Rules_heldFirm_13 rfl (by decide) ?_
    refine er_iadd cx d_Rules_heldFirm_14 ?_
    obtain ⟨c4, h⟩ := er_ck h
    obtain ⟨q4, e4, h⟩ := er_bd h
    refine er_callV (b := v1) (As := [.inl (M v0 2), .inl (er_add v3 2)]) (st := []) cx (c_Row_countInFirst e4) my_Rules_68 c4 ⟨by decide, by decide⟩ rfl (Nat.le_of_ble_eq_true rfl) d_Rules_heldFirm_15 ⟨Nat.zero_le _, Nat.zero_le _⟩ rfl ?_
    refine er_iload_n cx d_Rules_heldFirm_18 2 rfl ?_
    refine er_ic_lt (tgt := 24) cx d_Rules_heldFirm_19 (by decide) (fun b5 => ?_) (fun b5 => ?_)
    · have h := er_ift h b5
      obtain ⟨x6, e6, h⟩ := er_lel h
      refine er_iinc cx d_Rules_heldFirm_24 (k := 3) rfl (by decide) e6 rfl ?_
      refine er_goto (tgt := 2) cx d_Rules_heldFirm_27 (by decide) ?_
      refine er_sb cx [1, 2, 3, 0] rfl ?_
      exact hself _ _ _ _ _ h
    · have h := er_iff h b5
      refine er_iload_n cx d_Rules_heldFirm_22 3 rfl ?_
      obtain rfl := Option.some.inj h
      exact er_iret rt (Or.inl rfl) d_Rules_heldFirm_23 (by decide) (by decide) ⟨rfl, rfl, rfl⟩
theorem w_Rules_heldFirm_2 {K : er_K} {l : Launch} {X : er_X} (cx : er_Cx K l X b_Rules_heldFirm "EchoedRounds$Rules" 4 rm_Rules_heldFirm) {r : Int × er_Me} {T : er_Me} (rt : er_Rt K X b_Rules_heldFirm (some .int) 0 0 (some (.inl r.1)) T r.2) : ∀ n : Nat, ∀ (v0 v1 v2 v3 : Int) (M : er_Me), f_Rules_heldFirm_2 n T v0 v1 v2 v3 M = some r → er_G K 0 0 T M 2 [(0, .inr v0), (1, .inr v1), (2, .inl v2), (3, .inl v3)] [] := by
  intro n
  induction n with
  | zero =>
    intro v0 v1 v2 v3 M h
    cases h
  | succ n ih =>
    intro v0 v1 v2 v3 M h
    exact w_Rules_heldFirm_2_b cx rt ih v0 v1 v2 v3 M h
def f_Rules_heldFirm (p0 p1 p2 : Int) (T M : er_Me) : Option (Int × er_Me) :=
  f_Rules_heldFirm_2 er_fu T p0 p1 p2 0 M
set_option maxHeartbeats 4000000 in
theorem w_Rules_heldFirm {K : er_K} {l : Launch} {X : er_X} (cx : er_Cx K l X b_Rules_heldFirm "EchoedRounds$Rules" 4 rm_Rules_heldFirm) {r : Int × er_Me} {p0 p1 p2 : Int} {T M : er_Me} (rt : er_Rt K X b_Rules_heldFirm (some .int) 0 0 (some (.inl r.1)) T r.2) (h : f_Rules_heldFirm p0 p1 p2 T M = some r) : er_G K 0 0 T M 0 [(0, .inr p0), (1, .inr p1), (2, .inl p2)] [] := by
  unfold f_Rules_heldFirm at h
  refine er_iconst (v := 0) cx d_Rules_heldFirm_0 rfl (by decide) ?_
  refine er_istore_n cx d_Rules_heldFirm_1 rfl (by decide) rfl ?_
  refine er_sb cx [1, 2, 3, 0] rfl ?_
  exact w_Rules_heldFirm_2 cx rt er_fu _ _ _ _ _ h
theorem c_Rules_heldFirm {l : Launch} {X : er_X} {r : Int × er_Me} {p0 p1 p2 : Int} {T M : er_Me} (h : f_Rules_heldFirm p0 p1 p2 T M = some r) (hok : ∀ v ∈ ([.inr p0, .inr p1, .inl p2] : List er_V), er_ok v) : er_Ct l X y_Rules_heldFirm b_Rules_heldFirm 4 (some .int) rm_Rules_heldFirm [.inr p0, .inr p1, .inl p2] T M (some (.inl r.1)) T r.2 :=
  er_ct rfl rfl (Nat.le_of_ble_eq_true rfl) hok (fun K cx rt hin => w_Rules_heldFirm cx rt h)
/-! Rules_follows -/
abbrev rm_Rules_follows : Room := { frames := 3, cells := 0, slots := 0, locals := 66 }
def f_Rules_follows (p0 p1 p2 p3 p4 : Int) (T M : er_Me) : Option (Int × er_Me) :=
  if T p0 (-2) = 2 then
  (f_Rules_isFull p0 p4 T M).bind fun q1 =>
  if q1.1 = 0 then
  some (0, q1.2)
  else
  if er_rem p1 3 = 2 then
  if p3 < 2 then
  if T p4 (-2) = 6 then
  (f_Row_holdsWith p4 p2 p3 T q1.2).bind fun q19 =>
  if q19.1 = 0 then
  some (0, q19.2)
  else
  (f_Rules_canStayDivided p0 p4 T q19.2).bind fun q22 =>
  if q22.1 = 0 then
  some (0, q22.2)
  else
  some (1, q22.2) else none
  else
  (f_Rules_mostChosen p0 p4 (er_sub p3 2) T q1.2).bind fun q26 =>
  (f_Rules_isMajority p0 q26.1 T q26.2).bind fun q27 =>
  if q27.1 = 0 ∨ q27.1 = 1 then some (q27.1, q27.2) else none
  else
  (f_ER_isPlain p3 T q1.2).bind fun q4 =>
  if q4.1 = 0 then
  some (0, q4.2)
  else
  if er_rem p1 3 = 1 then
  (f_Rules_canPrevail p0 p4 p3 T q4.2).bind fun q15 =>
  if q15.1 = 0 ∨ q15.1 = 1 then some (q15.1, q15.2) else none
  else
  (f_Rules_mostChosen p0 p4 (er_add p3 2) T q4.2).bind fun q7 =>
  if q7.2 p0 1 < q7.1 then
  some (1, q7.2)
  else
  (f_Rules_canNeedToss p0 p4 T q7.2).bind fun q11 =>
  if q11.1 = 0 then
  some (0, q11.2)
  else
  some (1, q11.2) else none
set_option maxHeartbeats 4000000 in
theorem w_Rules_follows {K : er_K} {l : Launch} {X : er_X} (cx : er_Cx K l X b_Rules_follows "EchoedRounds$Rules" 6 rm_Rules_follows) {r : Int × er_Me} {p0 p1 p2 p3 p4 : Int} {T M : er_Me} (rt : er_Rt K X b_Rules_follows (some .boolean) 0 0 (some (.inl r.1)) T r.2) (h : f_Rules_follows p0 p1 p2 p3 p4 T M = some r) : er_G K 0 0 T M 0 [(0, .inr p0), (1, .inl p1), (2, .inl p2), (3, .inl p3), (4, .inr p4)] [] := by
  unfold f_Rules_follows at h
  refine er_aload_n cx d_Rules_follows_0 0 rfl ?_
  refine er_aload cx d_Rules_follows_1 4 rfl ?_
  obtain ⟨c1, h⟩ := er_ck h
  obtain ⟨q1, e1, h⟩ := er_bd h
  refine er_callV (b := p0) (As := [.inr p4]) (st := []) cx (c_Rules_isFull e1) my_Rules_29 c1 ⟨by decide, by decide⟩ rfl (Nat.le_of_ble_eq_true rfl) d_Rules_follows_3 ⟨Nat.zero_le _, Nat.zero_le _⟩ rfl ?_
  refine er_if_ne (tgt := 11) cx d_Rules_follows_6 (by decide) (fun b2 => ?_) (fun b2 => ?_)
  · have h := er_iff h b2
    refine er_iload_n cx d_Rules_follows_11 1 rfl ?_
    refine er_iconst (v := 3) cx d_Rules_follows_12 rfl (by decide) ?_
    refine er_irem cx d_Rules_follows_13 (by decide) ?_
    refine er_istore cx d_Rules_follows_14 (by decide) rfl ?_
    refine er_iload cx d_Rules_follows_16 0 rfl ?_
    refine er_iconst (v := 2) cx d_Rules_follows_18 rfl (by decide) ?_
    refine er_ic_ne (tgt := 68) cx d_Rules_follows_19 (by decide) (fun b3 => ?_) (fun b3 => ?_)
    · have h := er_iff h b3
      refine er_iload_n cx d_Rules_follows_68 4 rfl ?_
      obtain ⟨q4, e4, h⟩ := er_bd h
      refine er_callS (As := [.inl p3]) (st := []) cx (c_ER_isPlain e4) my_Rules_48 ⟨by decide, by decide⟩ rfl (Nat.le_of_ble_eq_true rfl) d_Rules_follows_69 ⟨Nat.zero_le _, Nat.zero_le _⟩ rfl ?_
      refine er_if_ne (tgt := 77) cx d_Rules_follows_72 (by decide) (fun b5 => ?_) (fun b5 => ?_)
      · have h := er_iff h b5
        refine er_iload cx d_Rules_follows_77 0 rfl ?_
        refine er_iconst (v := 1) cx d_Rules_follows_79 rfl (by decide) ?_
        refine er_ic_ne (tgt := 93) cx d_Rules_follows_80 (by decide) (fun b6 => ?_) (fun b6 => ?_)
        · have h := er_iff h b6
          refine er_aload_n cx d_Rules_follows_93 1 rfl ?_
          refine er_aload cx d_Rules_follows_94 5 rfl ?_
          refine er_iload_n cx d_Rules_follows_96 4 rfl ?_
          refine er_iconst (v := 2) cx d_Rules_follows_97 rfl (by decide) ?_
          refine er_iadd cx d_Rules_follows_98 ?_
          obtain ⟨q7, e7, h⟩ := er_bd h
          refine er_callV (b := p0) (As := [.inr p4, .inl (er_add p3 2)]) (st := []) cx (c_Rules_mostChosen e7) my_Rules_33 c1 ⟨by decide, by decide⟩ rfl (Nat.le_of_ble_eq_true rfl) d_Rules_follows_99 ⟨Nat.zero_le _, Nat.zero_le _⟩ rfl ?_
          refine er_aload_n cx d_Rules_follows_102 1 rfl ?_
          refine er_geti cx d_Rules_follows_103 fd_Rules_15 c1 ?_
          refine er_ic_gt (tgt := 118) cx d_Rules_follows_106 (by decide) (fun b9 => ?_) (fun b9 => ?_)
          · have h := er_ift h b9
            refine er_iconst (v := 1) cx d_Rules_follows_118 rfl (by decide) ?_
            refine er_goto (tgt := 123) cx d_Rules_follows_119 (by decide) ?_
            obtain rfl := Option.some.inj h
            exact er_iret rt (Or.inr ⟨rfl, Or.inr rfl⟩) d_Rules_follows_123 (by decide) (by decide) ⟨rfl, rfl, rfl⟩
          · have h := er_iff h b9
            refine er_aload_n cx d_Rules_follows_109 1 rfl ?_
            refine er_aload cx d_Rules_follows_110 5 rfl ?_
            obtain ⟨q11, e11, h⟩ := er_bd h
            refine er_callV (b := p0) (As := [.inr p4]) (st := []) cx (c_Rules_canNeedToss e11) my_Rules_55 c1 ⟨by decide, by decide⟩ rfl (Nat.le_of_ble_eq_true rfl) d_Rules_follows_112 ⟨Nat.zero_le _, Nat.zero_le _⟩ rfl ?_
            refine er_if_eq (tgt := 122) cx d_Rules_follows_115 (by decide) (fun b12 => ?_) (fun b12 => ?_)
            · have h := er_ift h b12
              refine er_iconst (v := 0) cx d_Rules_follows_122 rfl (by decide) ?_
              obtain rfl := Option.some.inj h
              exact er_iret rt (Or.inr ⟨rfl, Or.inl rfl⟩) d_Rules_follows_123 (by decide) (by decide) ⟨rfl, rfl, rfl⟩
            · have h := er_iff h b12
              refine er_iconst (v := 1) cx d_Rules_follows_118 rfl (by decide) ?_
              refine er_goto (tgt := 123) cx d_Rules_follows_119 (by decide) ?_
              obtain rfl := Option.some.inj h
              exact er_iret rt (Or.inr ⟨rfl, Or.inr rfl⟩) d_Rules_follows_123 (by decide) (by decide) ⟨rfl, rfl, rfl⟩
        · have h := er_ift h b6
          refine er_aload_n cx d_Rules_follows_83 1 rfl ?_
          refine er_aload cx d_Rules_follows_84 5 rfl ?_
          refine er_iload_n cx d_Rules_follows_86 4 rfl ?_
          obtain ⟨q15, e15, h⟩ := er_bd h
          refine er_callV (b := p0) (As := [.inr p4, .inl p3]) (st := []) cx (c_Rules_canPrevail e15) my_Rules_51 c1 ⟨by decide, by decide⟩ rfl (Nat.le_of_ble_eq_true rfl) d_Rules_follows_87 ⟨Nat.zero_le _, Nat.zero_le _⟩ rfl ?_
          refine er_goto (tgt := 123) cx d_Rules_follows_90 (by decide) ?_
          obtain ⟨c16, h⟩ := er_ck h
          obtain rfl := Option.some.inj h
          exact er_iret rt (Or.inr ⟨rfl, c16⟩) d_Rules_follows_123 (by decide) (by decide) ⟨rfl, rfl, rfl⟩
      · have h := er_ift h b5
        refine er_iconst (v := 0) cx d_Rules_follows_75 rfl (by decide) ?_
        obtain rfl := Option.some.inj h
        exact er_iret rt (Or.inr ⟨rfl, Or.inl rfl⟩) d_Rules_follows_76 (by decide) (by decide) ⟨rfl, rfl, rfl⟩
    · have h := er_ift h b3
      refine er_iload_n cx d_Rules_follows_22 4 rfl ?_
      refine er_iconst (v := 2) cx d_Rules_follows_23 rfl (by decide) ?_
      refine er_ic_lt (tgt := 43) cx d_Rules_follows_24 (by decide) (fun b18 => ?_) (fun b18 => ?_)
      · have h := er_ift h b18
        refine er_aload cx d_Rules_follows_43 5 rfl ?_
        refine er_iload_n cx d_Rules_follows_45 3 rfl ?_
        refine er_iload_n cx d_Rules_follows_46 4 rfl ?_
        obtain ⟨c19, h⟩ := er_ck h
        obtain ⟨q19, e19, h⟩ := er_bd h
        refine er_callV (b := p4) (As := [.inl p2, .inl p3]) (st := []) cx (c_Row_holdsWith e19) my_Rules_41 c19 ⟨by decide, by decide⟩ rfl (Nat.le_of_ble_eq_true rfl) d_Rules_follows_47 ⟨Nat.zero_le _, Nat.zero_le _⟩ rfl ?_
        refine er_if_eq (tgt := 66) cx d_Rules_follows_50 (by decide) (fun b20 => ?_) (fun b20 => ?_)
        · have h := er_ift h b20
          refine er_iconst (v := 0) cx d_Rules_follows_66 rfl (by decide) ?_
          obtain rfl := Option.some.inj h
          exact er_iret rt (Or.inr ⟨rfl, Or.inl rfl⟩) d_Rules_follows_67 (by decide) (by decide) ⟨rfl, rfl, rfl⟩
        · have h := er_iff h b20
          refine er_aload_n cx d_Rules_follows_53 1 rfl ?_
          refine er_aload cx d_Rules_follows_54 5 rfl ?_
          obtain ⟨q22, e22, h⟩ := er_bd h
          refine er_callV (b := p0) (As := [.inr p4]) (st := []) cx (c_Rules_canStayDivided e22) my_Rules_45 c1 ⟨by decide, by decide⟩ rfl (Nat.le_of_ble_eq_true rfl) d_Rules_follows_56 ⟨Nat.zero_le _, Nat.zero_le _⟩ rfl ?_
          refine er_if_eq (tgt := 66) cx d_Rules_follows_59 (by decide) (fun b23 => ?_) (fun b23 => ?_)
          · have h := er_ift h b23
            refine er_iconst (v := 0) cx d_Rules_follows_66 rfl (by decide) ?_
            obtain rfl := Option.some.inj h
            exact er_iret rt (Or.inr ⟨rfl, Or.inl rfl⟩) d_Rules_follows_67 (by decide) (by decide) ⟨rfl, rfl, rfl⟩
          · have h := er_iff h b23
            refine er_iconst (v := 1) cx d_Rules_follows_62 rfl (by decide) ?_
            refine er_goto (tgt := 67) cx d_Rules_follows_63 (by decide) ?_
            obtain rfl := Option.some.inj h
            exact er_iret rt (Or.inr ⟨rfl, Or.inr rfl⟩) d_Rules_follows_67 (by decide) (by decide) ⟨rfl, rfl, rfl⟩
      · have h := er_iff h b18
        refine er_aload_n cx d_Rules_follows_27 1 rfl ?_
        refine er_aload_n cx d_Rules_follows_28 1 rfl ?_
        refine er_aload cx d_Rules_follows_29 5 rfl ?_
        refine er_iload_n cx d_Rules_follows_31 4 rfl ?_
        refine er_iconst (v := 2) cx d_Rules_follows_32 rfl (by decide) ?_
        refine er_isub cx d_Rules_follows_33 ?_
        obtain ⟨q26, e26, h⟩ := er_bd h
        refine er_callV (b := p0) (As := [.inr p4, .inl (er_sub p3 2)]) (st := [.inr p0]) cx (c_Rules_mostChosen e26) my_Rules_33 c1 ⟨by decide, by decide⟩ rfl (Nat.le_of_ble_eq_true rfl) d_Rules_follows_34 ⟨Nat.zero_le _, Nat.zero_le _⟩ rfl ?_
        obtain ⟨q27, e27, h⟩ := er_bd h
        refine er_callV (b := p0) (As := [.inl q26.1]) (st := []) cx (c_Rules_isMajority e27) my_Rules_37 c1 ⟨by decide, by decide⟩ rfl (Nat.le_of_ble_eq_true rfl) d_Rules_follows_37 ⟨Nat.zero_le _, Nat.zero_le _⟩ rfl ?_
        refine er_goto (tgt := 67) cx d_Rules_follows_40 (by decide) ?_
        obtain ⟨c28, h⟩ := er_ck h
        obtain rfl := Option.some.inj h
        exact er_iret rt (Or.inr ⟨rfl, c28⟩) d_Rules_follows_67 (by decide) (by decide) ⟨rfl, rfl, rfl⟩
  · have h := er_ift h b2
    refine er_iconst (v := 0) cx d_Rules_follows_9 rfl (by decide) ?_
    obtain rfl := Option.some.inj h
    exact er_iret rt (Or.inr ⟨rfl, Or.inl rfl⟩) d_Rules_follows_10 (by decide) (by decide) ⟨rfl, rfl, rfl⟩
theorem c_Rules_follows {l : Launch} {X : er_X} {r : Int × er_Me} {p0 p1 p2 p3 p4 : Int} {T M : er_Me} (h : f_Rules_follows p0 p1 p2 p3 p4 T M = some r) (hok : ∀ v ∈ ([.inr p0, .inl p1, .inl p2, .inl p3, .inr p4] : List er_V), er_ok v) : er_Ct l X y_Rules_follows b_Rules_follows 6 (some .boolean) rm_Rules_follows [.inr p0, .inl p1, .inl p2, .inl p3, .inr p4] T M (some (.inl r.1)) T r.2 :=
  er_ct rfl rfl (Nat.le_of_ble_eq_true rfl) hok (fun K cx rt hin => w_Rules_follows cx rt h)
end
section
theorem d_Node_init_0 : decode b_Node_init 0 = .ok (.aload_n 0, 1) := by decide +kernel
theorem d_Node_init_1 : decode b_Node_init 1 = .ok (.invokespecial 3, 3) := by decide +kernel
theorem d_Node_init_4 : decode b_Node_init 4 = .ok (.aload_n 0, 1) := by decide +kernel
theorem d_Node_init_5 : decode b_Node_init 5 = .ok (.new 9, 3) := by decide +kernel
theorem d_Node_init_8 : decode b_Node_init 8 = .ok (.dup, 1) := by decide +kernel
theorem d_Node_init_9 : decode b_Node_init 9 = .ok (.invokespecial 11, 3) := by decide +kernel
theorem d_Node_init_12 : decode b_Node_init 12 = .ok (.putfield 12, 3) := by decide +kernel
theorem d_Node_init_15 : decode b_Node_init 15 = .ok (.aload_n 0, 1) := by decide +kernel
theorem d_Node_init_16 : decode b_Node_init 16 = .ok (.new 18, 3) := by decide +kernel
theorem d_Node_init_19 : decode b_Node_init 19 = .ok (.dup, 1) := by decide +kernel
theorem d_Node_init_20 : decode b_Node_init 20 = .ok (.invokespecial 20, 3) := by decide +kernel
theorem d_Node_init_23 : decode b_Node_init 23 = .ok (.putfield 21, 3) := by decide +kernel
theorem d_Node_init_26 : decode b_Node_init 26 = .ok (.aload_n 0, 1) := by decide +kernel
theorem d_Node_init_27 : decode b_Node_init 27 = .ok (.bipush 7, 2) := by decide +kernel
theorem d_Node_init_29 : decode b_Node_init 29 = .ok (.newarray .int, 2) := by decide +kernel
theorem d_Node_init_31 : decode b_Node_init 31 = .ok (.putfield 25, 3) := by decide +kernel
theorem d_Node_init_34 : decode b_Node_init 34 = .ok (.aload_n 0, 1) := by decide +kernel
theorem d_Node_init_35 : decode b_Node_init 35 = .ok (.bipush 63, 2) := by decide +kernel
theorem d_Node_init_37 : decode b_Node_init 37 = .ok (.newarray .boolean, 2) := by decide +kernel
theorem d_Node_init_39 : decode b_Node_init 39 = .ok (.putfield 29, 3) := by decide +kernel
theorem d_Node_init_42 : decode b_Node_init 42 = .ok (.aload_n 0, 1) := by decide +kernel
theorem d_Node_init_43 : decode b_Node_init 43 = .ok (.bipush 63, 2) := by decide +kernel
theorem d_Node_init_45 : decode b_Node_init 45 = .ok (.newarray .int, 2) := by decide +kernel
theorem d_Node_init_47 : decode b_Node_init 47 = .ok (.putfield 33, 3) := by decide +kernel
theorem d_Node_init_50 : decode b_Node_init 50 = .ok (.aload_n 0, 1) := by decide +kernel
theorem d_Node_init_51 : decode b_Node_init 51 = .ok (.bipush 9, 2) := by decide +kernel
theorem d_Node_init_53 : decode b_Node_init 53 = .ok (.anewarray 36, 3) := by decide +kernel
theorem d_Node_init_56 : decode b_Node_init 56 = .ok (.putfield 38, 3) := by decide +kernel
theorem d_Node_init_59 : decode b_Node_init 59 = .ok (.aload_n 0, 1) := by decide +kernel
theorem d_Node_init_60 : decode b_Node_init 60 = .ok (.iconst 1, 1) := by decide +kernel
theorem d_Node_init_61 : decode b_Node_init 61 = .ok (.putfield 42, 3) := by decide +kernel
theorem d_Node_init_64 : decode b_Node_init 64 = .ok (.aload_n 0, 1) := by decide +kernel
theorem d_Node_init_65 : decode b_Node_init 65 = .ok (.iconst 0, 1) := by decide +kernel
theorem d_Node_init_66 : decode b_Node_init 66 = .ok (.putfield 46, 3) := by decide +kernel
theorem d_Node_init_69 : decode b_Node_init 69 = .ok (.aload_n 0, 1) := by decide +kernel
theorem d_Node_init_70 : decode b_Node_init 70 = .ok (.iconst (-1), 1) := by decide +kernel
theorem d_Node_init_71 : decode b_Node_init 71 = .ok (.putfield 50, 3) := by decide +kernel
theorem d_Node_init_74 : decode b_Node_init 74 = .ok (.aload_n 0, 1) := by decide +kernel
theorem d_Node_init_75 : decode b_Node_init 75 = .ok (.iconst (-1), 1) := by decide +kernel
theorem d_Node_init_76 : decode b_Node_init 76 = .ok (.putfield 53, 3) := by decide +kernel
theorem d_Node_init_79 : decode b_Node_init 79 = .ok (.aload_n 0, 1) := by decide +kernel
theorem d_Node_init_80 : decode b_Node_init 80 = .ok (.iconst (-1), 1) := by decide +kernel
theorem d_Node_init_81 : decode b_Node_init 81 = .ok (.putfield 56, 3) := by decide +kernel
theorem d_Node_init_84 : decode b_Node_init 84 = .ok (.aload_n 0, 1) := by decide +kernel
theorem d_Node_init_85 : decode b_Node_init 85 = .ok (.iload_n 1, 1) := by decide +kernel
theorem d_Node_init_86 : decode b_Node_init 86 = .ok (.putfield 59, 3) := by decide +kernel
theorem d_Node_init_89 : decode b_Node_init 89 = .ok (.aload_n 0, 1) := by decide +kernel
theorem d_Node_init_90 : decode b_Node_init 90 = .ok (.aload_n 2, 1) := by decide +kernel
theorem d_Node_init_91 : decode b_Node_init 91 = .ok (.putfield 62, 3) := by decide +kernel
theorem d_Node_init_94 : decode b_Node_init 94 = .ok (.iconst 0, 1) := by decide +kernel
theorem d_Node_init_95 : decode b_Node_init 95 = .ok (.istore_n 3, 1) := by decide +kernel
theorem d_Node_init_96 : decode b_Node_init 96 = .ok (.iload_n 3, 1) := by decide +kernel
theorem d_Node_init_97 : decode b_Node_init 97 = .ok (.bipush 63, 2) := by decide +kernel
theorem d_Node_init_99 : decode b_Node_init 99 = .ok (.if_icmp .ge 16, 3) := by decide +kernel
theorem d_Node_init_102 : decode b_Node_init 102 = .ok (.aload_n 0, 1) := by decide +kernel
theorem d_Node_init_103 : decode b_Node_init 103 = .ok (.getfield 33, 3) := by decide +kernel
theorem d_Node_init_106 : decode b_Node_init 106 = .ok (.iload_n 3, 1) := by decide +kernel
theorem d_Node_init_107 : decode b_Node_init 107 = .ok (.iconst (-1), 1) := by decide +kernel
theorem d_Node_init_108 : decode b_Node_init 108 = .ok (.iastore, 1) := by decide +kernel
theorem d_Node_init_109 : decode b_Node_init 109 = .ok (.iinc 3 1, 3) := by decide +kernel
theorem d_Node_init_112 : decode b_Node_init 112 = .ok (.goto (-16), 3) := by decide +kernel
theorem d_Node_init_115 : decode b_Node_init 115 = .ok (.iconst 0, 1) := by decide +kernel
theorem d_Node_init_116 : decode b_Node_init 116 = .ok (.istore_n 3, 1) := by decide +kernel
theorem d_Node_init_117 : decode b_Node_init 117 = .ok (.iload_n 3, 1) := by decide +kernel
theorem d_Node_init_118 : decode b_Node_init 118 = .ok (.bipush 9, 2) := by decide +kernel
theorem d_Node_init_120 : decode b_Node_init 120 = .ok (.if_icmp .ge 22, 3) := by decide +kernel
theorem d_Node_init_123 : decode b_Node_init 123 = .ok (.aload_n 0, 1) := by decide +kernel
theorem d_Node_init_124 : decode b_Node_init 124 = .ok (.getfield 38, 3) := by decide +kernel
theorem d_Node_init_127 : decode b_Node_init 127 = .ok (.iload_n 3, 1) := by decide +kernel
theorem d_Node_init_128 : decode b_Node_init 128 = .ok (.new 36, 3) := by decide +kernel
theorem d_Node_init_131 : decode b_Node_init 131 = .ok (.dup, 1) := by decide +kernel
theorem d_Node_init_132 : decode b_Node_init 132 = .ok (.invokespecial 66, 3) := by decide +kernel
theorem d_Node_init_135 : decode b_Node_init 135 = .ok (.aastore, 1) := by decide +kernel
theorem d_Node_init_136 : decode b_Node_init 136 = .ok (.iinc 3 1, 3) := by decide +kernel
theorem d_Node_init_139 : decode b_Node_init 139 = .ok (.goto (-22), 3) := by decide +kernel
theorem d_Node_init_142 : decode b_Node_init 142 = .ok (.return_, 1) := by decide +kernel
theorem d_Node_enter_0 : decode b_Node_enter 0 = .ok (.aload_n 0, 1) := by decide +kernel
theorem d_Node_enter_1 : decode b_Node_enter 1 = .ok (.iload_n 1, 1) := by decide +kernel
theorem d_Node_enter_2 : decode b_Node_enter 2 = .ok (.putfield 50, 3) := by decide +kernel
theorem d_Node_enter_5 : decode b_Node_enter 5 = .ok (.aload_n 0, 1) := by decide +kernel
theorem d_Node_enter_6 : decode b_Node_enter 6 = .ok (.iload_n 2, 1) := by decide +kernel
theorem d_Node_enter_7 : decode b_Node_enter 7 = .ok (.putfield 53, 3) := by decide +kernel
theorem d_Node_enter_10 : decode b_Node_enter 10 = .ok (.iload_n 1, 1) := by decide +kernel
theorem d_Node_enter_11 : decode b_Node_enter 11 = .ok (.bipush 9, 2) := by decide +kernel
theorem d_Node_enter_13 : decode b_Node_enter 13 = .ok (.if_icmp .ge 20, 3) := by decide +kernel
theorem d_Node_enter_16 : decode b_Node_enter 16 = .ok (.aload_n 0, 1) := by decide +kernel
theorem d_Node_enter_17 : decode b_Node_enter 17 = .ok (.getfield 12, 3) := by decide +kernel
theorem d_Node_enter_20 : decode b_Node_enter 20 = .ok (.iconst 0, 1) := by decide +kernel
theorem d_Node_enter_21 : decode b_Node_enter 21 = .ok (.iload_n 1, 1) := by decide +kernel
theorem d_Node_enter_22 : decode b_Node_enter 22 = .ok (.aload_n 0, 1) := by decide +kernel
theorem d_Node_enter_23 : decode b_Node_enter 23 = .ok (.getfield 59, 3) := by decide +kernel
theorem d_Node_enter_26 : decode b_Node_enter 26 = .ok (.iload_n 2, 1) := by decide +kernel
theorem d_Node_enter_27 : decode b_Node_enter 27 = .ok (.invokestatic 67, 3) := by decide +kernel
theorem d_Node_enter_30 : decode b_Node_enter 30 = .ok (.invokevirtual 71, 3) := by decide +kernel
theorem d_Node_enter_33 : decode b_Node_enter 33 = .ok (.return_, 1) := by decide +kernel
theorem d_Node_sendReadyOnce_0 : decode b_Node_sendReadyOnce 0 = .ok (.iload_n 1, 1) := by decide +kernel
theorem d_Node_sendReadyOnce_1 : decode b_Node_sendReadyOnce 1 = .ok (.iload_n 2, 1) := by decide +kernel
theorem d_Node_sendReadyOnce_2 : decode b_Node_sendReadyOnce 2 = .ok (.invokestatic 83, 3) := by decide +kernel
theorem d_Node_sendReadyOnce_5 : decode b_Node_sendReadyOnce 5 = .ok (.istore 4, 2) := by decide +kernel
theorem d_Node_sendReadyOnce_7 : decode b_Node_sendReadyOnce 7 = .ok (.aload_n 0, 1) := by decide +kernel
theorem d_Node_sendReadyOnce_8 : decode b_Node_sendReadyOnce 8 = .ok (.getfield 29, 3) := by decide +kernel
theorem d_Node_sendReadyOnce_11 : decode b_Node_sendReadyOnce 11 = .ok (.iload 4, 2) := by decide +kernel
theorem d_Node_sendReadyOnce_13 : decode b_Node_sendReadyOnce 13 = .ok (.baload, 1) := by decide +kernel
theorem d_Node_sendReadyOnce_14 : decode b_Node_sendReadyOnce 14 = .ok (.ifCond .ne 25, 3) := by decide +kernel
theorem d_Node_sendReadyOnce_17 : decode b_Node_sendReadyOnce 17 = .ok (.aload_n 0, 1) := by decide +kernel
theorem d_Node_sendReadyOnce_18 : decode b_Node_sendReadyOnce 18 = .ok (.getfield 29, 3) := by decide +kernel
theorem d_Node_sendReadyOnce_21 : decode b_Node_sendReadyOnce 21 = .ok (.iload 4, 2) := by decide +kernel
theorem d_Node_sendReadyOnce_23 : decode b_Node_sendReadyOnce 23 = .ok (.iconst 1, 1) := by decide +kernel
theorem d_Node_sendReadyOnce_24 : decode b_Node_sendReadyOnce 24 = .ok (.bastore, 1) := by decide +kernel
theorem d_Node_sendReadyOnce_25 : decode b_Node_sendReadyOnce 25 = .ok (.aload_n 0, 1) := by decide +kernel
theorem d_Node_sendReadyOnce_26 : decode b_Node_sendReadyOnce 26 = .ok (.getfield 12, 3) := by decide +kernel
theorem d_Node_sendReadyOnce_29 : decode b_Node_sendReadyOnce 29 = .ok (.iconst 2, 1) := by decide +kernel
theorem d_Node_sendReadyOnce_30 : decode b_Node_sendReadyOnce 30 = .ok (.iload_n 1, 1) := by decide +kernel
theorem d_Node_sendReadyOnce_31 : decode b_Node_sendReadyOnce 31 = .ok (.iload_n 2, 1) := by decide +kernel
theorem d_Node_sendReadyOnce_32 : decode b_Node_sendReadyOnce 32 = .ok (.iload_n 3, 1) := by decide +kernel
theorem d_Node_sendReadyOnce_33 : decode b_Node_sendReadyOnce 33 = .ok (.invokestatic 67, 3) := by decide +kernel
theorem d_Node_sendReadyOnce_36 : decode b_Node_sendReadyOnce 36 = .ok (.invokevirtual 71, 3) := by decide +kernel
theorem d_Node_sendReadyOnce_39 : decode b_Node_sendReadyOnce 39 = .ok (.return_, 1) := by decide +kernel
theorem d_Node_hearEcho_0 : decode b_Node_hearEcho 0 = .ok (.aload_n 0, 1) := by decide +kernel
theorem d_Node_hearEcho_1 : decode b_Node_hearEcho 1 = .ok (.getfield 21, 3) := by decide +kernel
theorem d_Node_hearEcho_4 : decode b_Node_hearEcho 4 = .ok (.iconst 1, 1) := by decide +kernel
theorem d_Node_hearEcho_5 : decode b_Node_hearEcho 5 = .ok (.iload_n 1, 1) := by decide +kernel
theorem d_Node_hearEcho_6 : decode b_Node_hearEcho 6 = .ok (.iload_n 2, 1) := by decide +kernel
theorem d_Node_hearEcho_7 : decode b_Node_hearEcho 7 = .ok (.invokestatic 83, 3) := by decide +kernel
theorem d_Node_hearEcho_10 : decode b_Node_hearEcho 10 = .ok (.iload_n 3, 1) := by decide +kernel
theorem d_Node_hearEcho_11 : decode b_Node_hearEcho 11 = .ok (.invokevirtual 98, 3) := by decide +kernel
theorem d_Node_hearEcho_14 : decode b_Node_hearEcho 14 = .ok (.aload_n 0, 1) := by decide +kernel
theorem d_Node_hearEcho_15 : decode b_Node_hearEcho 15 = .ok (.getfield 62, 3) := by decide +kernel
theorem d_Node_hearEcho_18 : decode b_Node_hearEcho 18 = .ok (.getfield 102, 3) := by decide +kernel
theorem d_Node_hearEcho_21 : decode b_Node_hearEcho 21 = .ok (.if_icmp .lt 10, 3) := by decide +kernel
theorem d_Node_hearEcho_24 : decode b_Node_hearEcho 24 = .ok (.aload_n 0, 1) := by decide +kernel
theorem d_Node_hearEcho_25 : decode b_Node_hearEcho 25 = .ok (.iload_n 1, 1) := by decide +kernel
theorem d_Node_hearEcho_26 : decode b_Node_hearEcho 26 = .ok (.iload_n 2, 1) := by decide +kernel
theorem d_Node_hearEcho_27 : decode b_Node_hearEcho 27 = .ok (.iload_n 3, 1) := by decide +kernel
theorem d_Node_hearEcho_28 : decode b_Node_hearEcho 28 = .ok (.invokevirtual 107, 3) := by decide +kernel
theorem d_Node_hearEcho_31 : decode b_Node_hearEcho 31 = .ok (.return_, 1) := by decide +kernel
theorem d_Node_hearReady_0 : decode b_Node_hearReady 0 = .ok (.iload_n 1, 1) := by decide +kernel
theorem d_Node_hearReady_1 : decode b_Node_hearReady 1 = .ok (.iload_n 2, 1) := by decide +kernel
theorem d_Node_hearReady_2 : decode b_Node_hearReady 2 = .ok (.invokestatic 83, 3) := by decide +kernel
theorem d_Node_hearReady_5 : decode b_Node_hearReady 5 = .ok (.istore 4, 2) := by decide +kernel
theorem d_Node_hearReady_7 : decode b_Node_hearReady 7 = .ok (.aload_n 0, 1) := by decide +kernel
theorem d_Node_hearReady_8 : decode b_Node_hearReady 8 = .ok (.getfield 21, 3) := by decide +kernel
theorem d_Node_hearReady_11 : decode b_Node_hearReady 11 = .ok (.iconst 2, 1) := by decide +kernel
theorem d_Node_hearReady_12 : decode b_Node_hearReady 12 = .ok (.iload 4, 2) := by decide +kernel
theorem d_Node_hearReady_14 : decode b_Node_hearReady 14 = .ok (.iload_n 3, 1) := by decide +kernel
theorem d_Node_hearReady_15 : decode b_Node_hearReady 15 = .ok (.invokevirtual 98, 3) := by decide +kernel
theorem d_Node_hearReady_18 : decode b_Node_hearReady 18 = .ok (.istore 5, 2) := by decide +kernel
theorem d_Node_hearReady_20 : decode b_Node_hearReady 20 = .ok (.iload 5, 2) := by decide +kernel
theorem d_Node_hearReady_22 : decode b_Node_hearReady 22 = .ok (.aload_n 0, 1) := by decide +kernel
theorem d_Node_hearReady_23 : decode b_Node_hearReady 23 = .ok (.getfield 62, 3) := by decide +kernel
theorem d_Node_hearReady_26 : decode b_Node_hearReady 26 = .ok (.getfield 110, 3) := by decide +kernel
theorem d_Node_hearReady_29 : decode b_Node_hearReady 29 = .ok (.iconst 1, 1) := by decide +kernel
theorem d_Node_hearReady_30 : decode b_Node_hearReady 30 = .ok (.iadd, 1) := by decide +kernel
theorem d_Node_hearReady_31 : decode b_Node_hearReady 31 = .ok (.if_icmp .lt 10, 3) := by decide +kernel
theorem d_Node_hearReady_34 : decode b_Node_hearReady 34 = .ok (.aload_n 0, 1) := by decide +kernel
theorem d_Node_hearReady_35 : decode b_Node_hearReady 35 = .ok (.iload_n 1, 1) := by decide +kernel
theorem d_Node_hearReady_36 : decode b_Node_hearReady 36 = .ok (.iload_n 2, 1) := by decide +kernel
theorem d_Node_hearReady_37 : decode b_Node_hearReady 37 = .ok (.iload_n 3, 1) := by decide +kernel
theorem d_Node_hearReady_38 : decode b_Node_hearReady 38 = .ok (.invokevirtual 107, 3) := by decide +kernel
theorem d_Node_hearReady_41 : decode b_Node_hearReady 41 = .ok (.iload 5, 2) := by decide +kernel
theorem d_Node_hearReady_43 : decode b_Node_hearReady 43 = .ok (.iconst 2, 1) := by decide +kernel
theorem d_Node_hearReady_44 : decode b_Node_hearReady 44 = .ok (.aload_n 0, 1) := by decide +kernel
theorem d_Node_hearReady_45 : decode b_Node_hearReady 45 = .ok (.getfield 62, 3) := by decide +kernel
theorem d_Node_hearReady_48 : decode b_Node_hearReady 48 = .ok (.getfield 110, 3) := by decide +kernel
theorem d_Node_hearReady_51 : decode b_Node_hearReady 51 = .ok (.imul, 1) := by decide +kernel
theorem d_Node_hearReady_52 : decode b_Node_hearReady 52 = .ok (.iconst 1, 1) := by decide +kernel
theorem d_Node_hearReady_53 : decode b_Node_hearReady 53 = .ok (.iadd, 1) := by decide +kernel
theorem d_Node_hearReady_54 : decode b_Node_hearReady 54 = .ok (.if_icmp .lt 22, 3) := by decide +kernel
theorem d_Node_hearReady_57 : decode b_Node_hearReady 57 = .ok (.aload_n 0, 1) := by decide +kernel
theorem d_Node_hearReady_58 : decode b_Node_hearReady 58 = .ok (.getfield 33, 3) := by decide +kernel
theorem d_Node_hearReady_61 : decode b_Node_hearReady 61 = .ok (.iload 4, 2) := by decide +kernel
theorem d_Node_hearReady_63 : decode b_Node_hearReady 63 = .ok (.iaload, 1) := by decide +kernel
theorem d_Node_hearReady_64 : decode b_Node_hearReady 64 = .ok (.iconst (-1), 1) := by decide +kernel
theorem d_Node_hearReady_65 : decode b_Node_hearReady 65 = .ok (.if_icmp .ne 11, 3) := by decide +kernel
theorem d_Node_hearReady_68 : decode b_Node_hearReady 68 = .ok (.aload_n 0, 1) := by decide +kernel
theorem d_Node_hearReady_69 : decode b_Node_hearReady 69 = .ok (.getfield 33, 3) := by decide +kernel
theorem d_Node_hearReady_72 : decode b_Node_hearReady 72 = .ok (.iload 4, 2) := by decide +kernel
theorem d_Node_hearReady_74 : decode b_Node_hearReady 74 = .ok (.iload_n 3, 1) := by decide +kernel
theorem d_Node_hearReady_75 : decode b_Node_hearReady 75 = .ok (.iastore, 1) := by decide +kernel
theorem d_Node_hearReady_76 : decode b_Node_hearReady 76 = .ok (.return_, 1) := by decide +kernel
theorem d_Node_endRound_0 : decode b_Node_endRound 0 = .ok (.aload_n 0, 1) := by decide +kernel
theorem d_Node_endRound_1 : decode b_Node_endRound 1 = .ok (.getfield 62, 3) := by decide +kernel
theorem d_Node_endRound_4 : decode b_Node_endRound 4 = .ok (.aload_n 2, 1) := by decide +kernel
theorem d_Node_endRound_5 : decode b_Node_endRound 5 = .ok (.iconst 2, 1) := by decide +kernel
theorem d_Node_endRound_6 : decode b_Node_endRound 6 = .ok (.aload_n 0, 1) := by decide +kernel
theorem d_Node_endRound_7 : decode b_Node_endRound 7 = .ok (.getfield 62, 3) := by decide +kernel
theorem d_Node_endRound_10 : decode b_Node_endRound 10 = .ok (.getfield 110, 3) := by decide +kernel
theorem d_Node_endRound_13 : decode b_Node_endRound 13 = .ok (.imul, 1) := by decide +kernel
theorem d_Node_endRound_14 : decode b_Node_endRound 14 = .ok (.iconst 1, 1) := by decide +kernel
theorem d_Node_endRound_15 : decode b_Node_endRound 15 = .ok (.iadd, 1) := by decide +kernel
theorem d_Node_endRound_16 : decode b_Node_endRound 16 = .ok (.invokevirtual 168, 3) := by decide +kernel
theorem d_Node_endRound_19 : decode b_Node_endRound 19 = .ok (.istore_n 3, 1) := by decide +kernel
theorem d_Node_endRound_20 : decode b_Node_endRound 20 = .ok (.iload_n 3, 1) := by decide +kernel
theorem d_Node_endRound_21 : decode b_Node_endRound 21 = .ok (.iconst (-1), 1) := by decide +kernel
theorem d_Node_endRound_22 : decode b_Node_endRound 22 = .ok (.if_icmp .eq 18, 3) := by decide +kernel
theorem d_Node_endRound_25 : decode b_Node_endRound 25 = .ok (.aload_n 0, 1) := by decide +kernel
theorem d_Node_endRound_26 : decode b_Node_endRound 26 = .ok (.getfield 56, 3) := by decide +kernel
theorem d_Node_endRound_29 : decode b_Node_endRound 29 = .ok (.iconst (-1), 1) := by decide +kernel
theorem d_Node_endRound_30 : decode b_Node_endRound 30 = .ok (.if_icmp .ne 8, 3) := by decide +kernel
theorem d_Node_endRound_33 : decode b_Node_endRound 33 = .ok (.aload_n 0, 1) := by decide +kernel
theorem d_Node_endRound_34 : decode b_Node_endRound 34 = .ok (.iload_n 3, 1) := by decide +kernel
theorem d_Node_endRound_35 : decode b_Node_endRound 35 = .ok (.putfield 56, 3) := by decide +kernel
theorem d_Node_endRound_38 : decode b_Node_endRound 38 = .ok (.iload_n 3, 1) := by decide +kernel
theorem d_Node_endRound_39 : decode b_Node_endRound 39 = .ok (.ireturn, 1) := by decide +kernel
theorem d_Node_endRound_40 : decode b_Node_endRound 40 = .ok (.aload_n 0, 1) := by decide +kernel
theorem d_Node_endRound_41 : decode b_Node_endRound 41 = .ok (.getfield 62, 3) := by decide +kernel
theorem d_Node_endRound_44 : decode b_Node_endRound 44 = .ok (.aload_n 2, 1) := by decide +kernel
theorem d_Node_endRound_45 : decode b_Node_endRound 45 = .ok (.aload_n 0, 1) := by decide +kernel
theorem d_Node_endRound_46 : decode b_Node_endRound 46 = .ok (.getfield 62, 3) := by decide +kernel
theorem d_Node_endRound_49 : decode b_Node_endRound 49 = .ok (.getfield 110, 3) := by decide +kernel
theorem d_Node_endRound_52 : decode b_Node_endRound 52 = .ok (.iconst 1, 1) := by decide +kernel
theorem d_Node_endRound_53 : decode b_Node_endRound 53 = .ok (.iadd, 1) := by decide +kernel
theorem d_Node_endRound_54 : decode b_Node_endRound 54 = .ok (.invokevirtual 168, 3) := by decide +kernel
theorem d_Node_endRound_57 : decode b_Node_endRound 57 = .ok (.istore 4, 2) := by decide +kernel
theorem d_Node_endRound_59 : decode b_Node_endRound 59 = .ok (.iload 4, 2) := by decide +kernel
theorem d_Node_endRound_61 : decode b_Node_endRound 61 = .ok (.iconst (-1), 1) := by decide +kernel
theorem d_Node_endRound_62 : decode b_Node_endRound 62 = .ok (.if_icmp .eq 8, 3) := by decide +kernel
theorem d_Node_endRound_65 : decode b_Node_endRound 65 = .ok (.iload 4, 2) := by decide +kernel
theorem d_Node_endRound_67 : decode b_Node_endRound 67 = .ok (.goto 11, 3) := by decide +kernel
theorem d_Node_endRound_70 : decode b_Node_endRound 70 = .ok (.aload_n 0, 1) := by decide +kernel
theorem d_Node_endRound_71 : decode b_Node_endRound 71 = .ok (.getfield 46, 3) := by decide +kernel
theorem d_Node_endRound_74 : decode b_Node_endRound 74 = .ok (.iload_n 1, 1) := by decide +kernel
theorem d_Node_endRound_75 : decode b_Node_endRound 75 = .ok (.ishr, 1) := by decide +kernel
theorem d_Node_endRound_76 : decode b_Node_endRound 76 = .ok (.iconst 1, 1) := by decide +kernel
theorem d_Node_endRound_77 : decode b_Node_endRound 77 = .ok (.iand, 1) := by decide +kernel
theorem d_Node_endRound_78 : decode b_Node_endRound 78 = .ok (.ireturn, 1) := by decide +kernel
theorem d_Node_hear_0 : decode b_Node_hear 0 = .ok (.iload_n 2, 1) := by decide +kernel
theorem d_Node_hear_1 : decode b_Node_hear 1 = .ok (.sipush 1000, 3) := by decide +kernel
theorem d_Node_hear_4 : decode b_Node_hear 4 = .ok (.idiv, 1) := by decide +kernel
theorem d_Node_hear_5 : decode b_Node_hear 5 = .ok (.istore_n 3, 1) := by decide +kernel
theorem d_Node_hear_6 : decode b_Node_hear 6 = .ok (.iload_n 2, 1) := by decide +kernel
theorem d_Node_hear_7 : decode b_Node_hear 7 = .ok (.bipush 100, 2) := by decide +kernel
theorem d_Node_hear_9 : decode b_Node_hear 9 = .ok (.idiv, 1) := by decide +kernel
theorem d_Node_hear_10 : decode b_Node_hear 10 = .ok (.bipush 10, 2) := by decide +kernel
theorem d_Node_hear_12 : decode b_Node_hear 12 = .ok (.irem, 1) := by decide +kernel
theorem d_Node_hear_13 : decode b_Node_hear 13 = .ok (.istore 4, 2) := by decide +kernel
theorem d_Node_hear_15 : decode b_Node_hear 15 = .ok (.iload_n 2, 1) := by decide +kernel
theorem d_Node_hear_16 : decode b_Node_hear 16 = .ok (.bipush 10, 2) := by decide +kernel
theorem d_Node_hear_18 : decode b_Node_hear 18 = .ok (.idiv, 1) := by decide +kernel
theorem d_Node_hear_19 : decode b_Node_hear 19 = .ok (.bipush 10, 2) := by decide +kernel
theorem d_Node_hear_21 : decode b_Node_hear 21 = .ok (.irem, 1) := by decide +kernel
theorem d_Node_hear_22 : decode b_Node_hear 22 = .ok (.istore 5, 2) := by decide +kernel
theorem d_Node_hear_24 : decode b_Node_hear 24 = .ok (.iload_n 2, 1) := by decide +kernel
theorem d_Node_hear_25 : decode b_Node_hear 25 = .ok (.bipush 10, 2) := by decide +kernel
theorem d_Node_hear_27 : decode b_Node_hear 27 = .ok (.irem, 1) := by decide +kernel
theorem d_Node_hear_28 : decode b_Node_hear 28 = .ok (.istore 6, 2) := by decide +kernel
theorem d_Node_hear_30 : decode b_Node_hear 30 = .ok (.iload 5, 2) := by decide +kernel
theorem d_Node_hear_32 : decode b_Node_hear 32 = .ok (.ifCond .ne 11, 3) := by decide +kernel
theorem d_Node_hear_35 : decode b_Node_hear 35 = .ok (.iload 4, 2) := by decide +kernel
theorem d_Node_hear_37 : decode b_Node_hear 37 = .ok (.iload_n 1, 1) := by decide +kernel
theorem d_Node_hear_38 : decode b_Node_hear 38 = .ok (.if_icmp .eq 5, 3) := by decide +kernel
theorem d_Node_hear_41 : decode b_Node_hear 41 = .ok (.iconst 0, 1) := by decide +kernel
theorem d_Node_hear_42 : decode b_Node_hear 42 = .ok (.ireturn, 1) := by decide +kernel
theorem d_Node_hear_43 : decode b_Node_hear 43 = .ok (.aload_n 0, 1) := by decide +kernel
theorem d_Node_hear_44 : decode b_Node_hear 44 = .ok (.getfield 21, 3) := by decide +kernel
theorem d_Node_hear_47 : decode b_Node_hear 47 = .ok (.iload_n 1, 1) := by decide +kernel
theorem d_Node_hear_48 : decode b_Node_hear 48 = .ok (.iload 5, 2) := by decide +kernel
theorem d_Node_hear_50 : decode b_Node_hear 50 = .ok (.iload_n 3, 1) := by decide +kernel
theorem d_Node_hear_51 : decode b_Node_hear 51 = .ok (.iload 4, 2) := by decide +kernel
theorem d_Node_hear_53 : decode b_Node_hear 53 = .ok (.invokestatic 83, 3) := by decide +kernel
theorem d_Node_hear_56 : decode b_Node_hear 56 = .ok (.iload 6, 2) := by decide +kernel
theorem d_Node_hear_58 : decode b_Node_hear 58 = .ok (.invokevirtual 87, 3) := by decide +kernel
theorem d_Node_hear_61 : decode b_Node_hear 61 = .ok (.ifCond .ne 5, 3) := by decide +kernel
theorem d_Node_hear_64 : decode b_Node_hear 64 = .ok (.iconst 0, 1) := by decide +kernel
theorem d_Node_hear_65 : decode b_Node_hear 65 = .ok (.ireturn, 1) := by decide +kernel
theorem d_Node_hear_66 : decode b_Node_hear 66 = .ok (.iload 5, 2) := by decide +kernel
theorem d_Node_hear_68 : decode b_Node_hear 68 = .ok (.ifCond .ne 22, 3) := by decide +kernel
theorem d_Node_hear_71 : decode b_Node_hear 71 = .ok (.aload_n 0, 1) := by decide +kernel
theorem d_Node_hear_72 : decode b_Node_hear 72 = .ok (.getfield 12, 3) := by decide +kernel
theorem d_Node_hear_75 : decode b_Node_hear 75 = .ok (.iconst 1, 1) := by decide +kernel
theorem d_Node_hear_76 : decode b_Node_hear 76 = .ok (.iload_n 3, 1) := by decide +kernel
theorem d_Node_hear_77 : decode b_Node_hear 77 = .ok (.iload 4, 2) := by decide +kernel
theorem d_Node_hear_79 : decode b_Node_hear 79 = .ok (.iload 6, 2) := by decide +kernel
theorem d_Node_hear_81 : decode b_Node_hear 81 = .ok (.invokestatic 67, 3) := by decide +kernel
theorem d_Node_hear_84 : decode b_Node_hear 84 = .ok (.invokevirtual 71, 3) := by decide +kernel
theorem d_Node_hear_87 : decode b_Node_hear 87 = .ok (.goto 30, 3) := by decide +kernel
theorem d_Node_hear_90 : decode b_Node_hear 90 = .ok (.iload 5, 2) := by decide +kernel
theorem d_Node_hear_92 : decode b_Node_hear 92 = .ok (.iconst 1, 1) := by decide +kernel
theorem d_Node_hear_93 : decode b_Node_hear 93 = .ok (.if_icmp .ne 15, 3) := by decide +kernel
theorem d_Node_hear_96 : decode b_Node_hear 96 = .ok (.aload_n 0, 1) := by decide +kernel
theorem d_Node_hear_97 : decode b_Node_hear 97 = .ok (.iload_n 3, 1) := by decide +kernel
theorem d_Node_hear_98 : decode b_Node_hear 98 = .ok (.iload 4, 2) := by decide +kernel
theorem d_Node_hear_100 : decode b_Node_hear 100 = .ok (.iload 6, 2) := by decide +kernel
theorem d_Node_hear_102 : decode b_Node_hear 102 = .ok (.invokevirtual 91, 3) := by decide +kernel
theorem d_Node_hear_105 : decode b_Node_hear 105 = .ok (.goto 12, 3) := by decide +kernel
theorem d_Node_hear_108 : decode b_Node_hear 108 = .ok (.aload_n 0, 1) := by decide +kernel
theorem d_Node_hear_109 : decode b_Node_hear 109 = .ok (.iload_n 3, 1) := by decide +kernel
theorem d_Node_hear_110 : decode b_Node_hear 110 = .ok (.iload 4, 2) := by decide +kernel
theorem d_Node_hear_112 : decode b_Node_hear 112 = .ok (.iload 6, 2) := by decide +kernel
theorem d_Node_hear_114 : decode b_Node_hear 114 = .ok (.invokevirtual 95, 3) := by decide +kernel
theorem d_Node_hear_117 : decode b_Node_hear 117 = .ok (.iconst 1, 1) := by decide +kernel
theorem d_Node_hear_118 : decode b_Node_hear 118 = .ok (.ireturn, 1) := by decide +kernel
theorem d_Node_canBecomeValid_0 : decode b_Node_canBecomeValid 0 = .ok (.aload_n 0, 1) := by decide +kernel
theorem d_Node_canBecomeValid_1 : decode b_Node_canBecomeValid 1 = .ok (.getfield 33, 3) := by decide +kernel
theorem d_Node_canBecomeValid_4 : decode b_Node_canBecomeValid 4 = .ok (.iload_n 1, 1) := by decide +kernel
theorem d_Node_canBecomeValid_5 : decode b_Node_canBecomeValid 5 = .ok (.iload_n 2, 1) := by decide +kernel
theorem d_Node_canBecomeValid_6 : decode b_Node_canBecomeValid 6 = .ok (.invokestatic 83, 3) := by decide +kernel
theorem d_Node_canBecomeValid_9 : decode b_Node_canBecomeValid 9 = .ok (.iaload, 1) := by decide +kernel
theorem d_Node_canBecomeValid_10 : decode b_Node_canBecomeValid 10 = .ok (.istore_n 3, 1) := by decide +kernel
theorem d_Node_canBecomeValid_11 : decode b_Node_canBecomeValid 11 = .ok (.iload_n 3, 1) := by decide +kernel
theorem d_Node_canBecomeValid_12 : decode b_Node_canBecomeValid 12 = .ok (.iconst (-1), 1) := by decide +kernel
theorem d_Node_canBecomeValid_13 : decode b_Node_canBecomeValid 13 = .ok (.if_icmp .eq 16, 3) := by decide +kernel
theorem d_Node_canBecomeValid_16 : decode b_Node_canBecomeValid 16 = .ok (.aload_n 0, 1) := by decide +kernel
theorem d_Node_canBecomeValid_17 : decode b_Node_canBecomeValid 17 = .ok (.getfield 38, 3) := by decide +kernel
theorem d_Node_canBecomeValid_20 : decode b_Node_canBecomeValid 20 = .ok (.iload_n 1, 1) := by decide +kernel
theorem d_Node_canBecomeValid_21 : decode b_Node_canBecomeValid 21 = .ok (.aaload, 1) := by decide +kernel
theorem d_Node_canBecomeValid_22 : decode b_Node_canBecomeValid 22 = .ok (.iload_n 2, 1) := by decide +kernel
theorem d_Node_canBecomeValid_23 : decode b_Node_canBecomeValid 23 = .ok (.invokevirtual 132, 3) := by decide +kernel
theorem d_Node_canBecomeValid_26 : decode b_Node_canBecomeValid 26 = .ok (.ifCond .eq 5, 3) := by decide +kernel
theorem d_Node_canBecomeValid_29 : decode b_Node_canBecomeValid 29 = .ok (.iconst 0, 1) := by decide +kernel
theorem d_Node_canBecomeValid_30 : decode b_Node_canBecomeValid 30 = .ok (.ireturn, 1) := by decide +kernel
theorem d_Node_canBecomeValid_31 : decode b_Node_canBecomeValid 31 = .ok (.iload_n 1, 1) := by decide +kernel
theorem d_Node_canBecomeValid_32 : decode b_Node_canBecomeValid 32 = .ok (.ifCond .ne 10, 3) := by decide +kernel
theorem d_Node_canBecomeValid_35 : decode b_Node_canBecomeValid 35 = .ok (.iload_n 3, 1) := by decide +kernel
theorem d_Node_canBecomeValid_36 : decode b_Node_canBecomeValid 36 = .ok (.invokestatic 136, 3) := by decide +kernel
theorem d_Node_canBecomeValid_39 : decode b_Node_canBecomeValid 39 = .ok (.goto 21, 3) := by decide +kernel
theorem d_Node_canBecomeValid_42 : decode b_Node_canBecomeValid 42 = .ok (.aload_n 0, 1) := by decide +kernel
theorem d_Node_canBecomeValid_43 : decode b_Node_canBecomeValid 43 = .ok (.getfield 62, 3) := by decide +kernel
theorem d_Node_canBecomeValid_46 : decode b_Node_canBecomeValid 46 = .ok (.iload_n 1, 1) := by decide +kernel
theorem d_Node_canBecomeValid_47 : decode b_Node_canBecomeValid 47 = .ok (.iload_n 2, 1) := by decide +kernel
theorem d_Node_canBecomeValid_48 : decode b_Node_canBecomeValid 48 = .ok (.iload_n 3, 1) := by decide +kernel
theorem d_Node_canBecomeValid_49 : decode b_Node_canBecomeValid 49 = .ok (.aload_n 0, 1) := by decide +kernel
theorem d_Node_canBecomeValid_50 : decode b_Node_canBecomeValid 50 = .ok (.getfield 38, 3) := by decide +kernel
theorem d_Node_canBecomeValid_53 : decode b_Node_canBecomeValid 53 = .ok (.iload_n 1, 1) := by decide +kernel
theorem d_Node_canBecomeValid_54 : decode b_Node_canBecomeValid 54 = .ok (.iconst 1, 1) := by decide +kernel
theorem d_Node_canBecomeValid_55 : decode b_Node_canBecomeValid 55 = .ok (.isub, 1) := by decide +kernel
theorem d_Node_canBecomeValid_56 : decode b_Node_canBecomeValid 56 = .ok (.aaload, 1) := by decide +kernel
theorem d_Node_canBecomeValid_57 : decode b_Node_canBecomeValid 57 = .ok (.invokevirtual 139, 3) := by decide +kernel
theorem d_Node_canBecomeValid_60 : decode b_Node_canBecomeValid 60 = .ok (.ireturn, 1) := by decide +kernel
theorem d_Node_valueAfter_0 : decode b_Node_valueAfter 0 = .ok (.aload_n 0, 1) := by decide +kernel
theorem d_Node_valueAfter_1 : decode b_Node_valueAfter 1 = .ok (.getfield 38, 3) := by decide +kernel
theorem d_Node_valueAfter_4 : decode b_Node_valueAfter 4 = .ok (.iload_n 1, 1) := by decide +kernel
theorem d_Node_valueAfter_5 : decode b_Node_valueAfter 5 = .ok (.aaload, 1) := by decide +kernel
theorem d_Node_valueAfter_6 : decode b_Node_valueAfter 6 = .ok (.astore_n 2, 1) := by decide +kernel
theorem d_Node_valueAfter_7 : decode b_Node_valueAfter 7 = .ok (.iload_n 1, 1) := by decide +kernel
theorem d_Node_valueAfter_8 : decode b_Node_valueAfter 8 = .ok (.iconst 3, 1) := by decide +kernel
theorem d_Node_valueAfter_9 : decode b_Node_valueAfter 9 = .ok (.irem, 1) := by decide +kernel
theorem d_Node_valueAfter_10 : decode b_Node_valueAfter 10 = .ok (.istore_n 3, 1) := by decide +kernel
theorem d_Node_valueAfter_11 : decode b_Node_valueAfter 11 = .ok (.iload_n 3, 1) := by decide +kernel
theorem d_Node_valueAfter_12 : decode b_Node_valueAfter 12 = .ok (.ifCond .ne 12, 3) := by decide +kernel
theorem d_Node_valueAfter_15 : decode b_Node_valueAfter 15 = .ok (.aload_n 0, 1) := by decide +kernel
theorem d_Node_valueAfter_16 : decode b_Node_valueAfter 16 = .ok (.getfield 62, 3) := by decide +kernel
theorem d_Node_valueAfter_19 : decode b_Node_valueAfter 19 = .ok (.aload_n 2, 1) := by decide +kernel
theorem d_Node_valueAfter_20 : decode b_Node_valueAfter 20 = .ok (.invokevirtual 156, 3) := by decide +kernel
theorem d_Node_valueAfter_23 : decode b_Node_valueAfter 23 = .ok (.ireturn, 1) := by decide +kernel
theorem d_Node_valueAfter_24 : decode b_Node_valueAfter 24 = .ok (.iload_n 3, 1) := by decide +kernel
theorem d_Node_valueAfter_25 : decode b_Node_valueAfter 25 = .ok (.iconst 1, 1) := by decide +kernel
theorem d_Node_valueAfter_26 : decode b_Node_valueAfter 26 = .ok (.if_icmp .ne 18, 3) := by decide +kernel
theorem d_Node_valueAfter_29 : decode b_Node_valueAfter 29 = .ok (.aload_n 0, 1) := by decide +kernel
theorem d_Node_valueAfter_30 : decode b_Node_valueAfter 30 = .ok (.getfield 62, 3) := by decide +kernel
theorem d_Node_valueAfter_33 : decode b_Node_valueAfter 33 = .ok (.aload_n 2, 1) := by decide +kernel
theorem d_Node_valueAfter_34 : decode b_Node_valueAfter 34 = .ok (.aload_n 0, 1) := by decide +kernel
theorem d_Node_valueAfter_35 : decode b_Node_valueAfter 35 = .ok (.getfield 53, 3) := by decide +kernel
theorem d_Node_valueAfter_38 : decode b_Node_valueAfter 38 = .ok (.invokevirtual 160, 3) := by decide +kernel
theorem d_Node_valueAfter_41 : decode b_Node_valueAfter 41 = .ok (.goto 11, 3) := by decide +kernel
theorem d_Node_valueAfter_44 : decode b_Node_valueAfter 44 = .ok (.aload_n 0, 1) := by decide +kernel
theorem d_Node_valueAfter_45 : decode b_Node_valueAfter 45 = .ok (.iload_n 1, 1) := by decide +kernel
theorem d_Node_valueAfter_46 : decode b_Node_valueAfter 46 = .ok (.iconst 3, 1) := by decide +kernel
theorem d_Node_valueAfter_47 : decode b_Node_valueAfter 47 = .ok (.idiv, 1) := by decide +kernel
theorem d_Node_valueAfter_48 : decode b_Node_valueAfter 48 = .ok (.aload_n 2, 1) := by decide +kernel
theorem d_Node_valueAfter_49 : decode b_Node_valueAfter 49 = .ok (.invokevirtual 164, 3) := by decide +kernel
theorem d_Node_valueAfter_52 : decode b_Node_valueAfter 52 = .ok (.ireturn, 1) := by decide +kernel
theorem d_Node_hearNextOf_0 : decode b_Node_hearNextOf 0 = .ok (.aload_n 2, 1) := by decide +kernel
theorem d_Node_hearNextOf_1 : decode b_Node_hearNextOf 1 = .ok (.aload_n 0, 1) := by decide +kernel
theorem d_Node_hearNextOf_2 : decode b_Node_hearNextOf 2 = .ok (.getfield 25, 3) := by decide +kernel
theorem d_Node_hearNextOf_5 : decode b_Node_hearNextOf 5 = .ok (.iload_n 1, 1) := by decide +kernel
theorem d_Node_hearNextOf_6 : decode b_Node_hearNextOf 6 = .ok (.iaload, 1) := by decide +kernel
theorem d_Node_hearNextOf_7 : decode b_Node_hearNextOf 7 = .ok (.invokevirtual 75, 3) := by decide +kernel
theorem d_Node_hearNextOf_10 : decode b_Node_hearNextOf 10 = .ok (.istore_n 3, 1) := by decide +kernel
theorem d_Node_hearNextOf_11 : decode b_Node_hearNextOf 11 = .ok (.iload_n 3, 1) := by decide +kernel
theorem d_Node_hearNextOf_12 : decode b_Node_hearNextOf 12 = .ok (.iconst (-1), 1) := by decide +kernel
theorem d_Node_hearNextOf_13 : decode b_Node_hearNextOf 13 = .ok (.if_icmp .ne 5, 3) := by decide +kernel
theorem d_Node_hearNextOf_16 : decode b_Node_hearNextOf 16 = .ok (.iconst 0, 1) := by decide +kernel
theorem d_Node_hearNextOf_17 : decode b_Node_hearNextOf 17 = .ok (.ireturn, 1) := by decide +kernel
theorem d_Node_hearNextOf_18 : decode b_Node_hearNextOf 18 = .ok (.aload_n 0, 1) := by decide +kernel
theorem d_Node_hearNextOf_19 : decode b_Node_hearNextOf 19 = .ok (.getfield 25, 3) := by decide +kernel
theorem d_Node_hearNextOf_22 : decode b_Node_hearNextOf 22 = .ok (.iload_n 1, 1) := by decide +kernel
theorem d_Node_hearNextOf_23 : decode b_Node_hearNextOf 23 = .ok (.dup2, 1) := by decide +kernel
theorem d_Node_hearNextOf_24 : decode b_Node_hearNextOf 24 = .ok (.iaload, 1) := by decide +kernel
theorem d_Node_hearNextOf_25 : decode b_Node_hearNextOf 25 = .ok (.iconst 1, 1) := by decide +kernel
theorem d_Node_hearNextOf_26 : decode b_Node_hearNextOf 26 = .ok (.iadd, 1) := by decide +kernel
theorem d_Node_hearNextOf_27 : decode b_Node_hearNextOf 27 = .ok (.iastore, 1) := by decide +kernel
theorem d_Node_hearNextOf_28 : decode b_Node_hearNextOf 28 = .ok (.aload_n 0, 1) := by decide +kernel
theorem d_Node_hearNextOf_29 : decode b_Node_hearNextOf 29 = .ok (.iload_n 1, 1) := by decide +kernel
theorem d_Node_hearNextOf_30 : decode b_Node_hearNextOf 30 = .ok (.iload_n 3, 1) := by decide +kernel
theorem d_Node_hearNextOf_31 : decode b_Node_hearNextOf 31 = .ok (.invokevirtual 79, 3) := by decide +kernel
theorem d_Node_hearNextOf_34 : decode b_Node_hearNextOf 34 = .ok (.pop, 1) := by decide +kernel
theorem d_Node_hearNextOf_35 : decode b_Node_hearNextOf 35 = .ok (.iconst 1, 1) := by decide +kernel
theorem d_Node_hearNextOf_36 : decode b_Node_hearNextOf 36 = .ok (.ireturn, 1) := by decide +kernel
theorem d_Node_makeOneValid_0 : decode b_Node_makeOneValid 0 = .ok (.iconst 0, 1) := by decide +kernel
theorem d_Node_makeOneValid_1 : decode b_Node_makeOneValid 1 = .ok (.istore_n 1, 1) := by decide +kernel
theorem d_Node_makeOneValid_2 : decode b_Node_makeOneValid 2 = .ok (.iload_n 1, 1) := by decide +kernel
theorem d_Node_makeOneValid_3 : decode b_Node_makeOneValid 3 = .ok (.bipush 9, 2) := by decide +kernel
theorem d_Node_makeOneValid_5 : decode b_Node_makeOneValid 5 = .ok (.if_icmp .ge 59, 3) := by decide +kernel
theorem d_Node_makeOneValid_8 : decode b_Node_makeOneValid 8 = .ok (.iconst 0, 1) := by decide +kernel
theorem d_Node_makeOneValid_9 : decode b_Node_makeOneValid 9 = .ok (.istore_n 2, 1) := by decide +kernel
theorem d_Node_makeOneValid_10 : decode b_Node_makeOneValid 10 = .ok (.iload_n 2, 1) := by decide +kernel
theorem d_Node_makeOneValid_11 : decode b_Node_makeOneValid 11 = .ok (.aload_n 0, 1) := by decide +kernel
theorem d_Node_makeOneValid_12 : decode b_Node_makeOneValid 12 = .ok (.getfield 62, 3) := by decide +kernel
theorem d_Node_makeOneValid_15 : decode b_Node_makeOneValid 15 = .ok (.getfield 124, 3) := by decide +kernel
theorem d_Node_makeOneValid_18 : decode b_Node_makeOneValid 18 = .ok (.if_icmp .ge 40, 3) := by decide +kernel
theorem d_Node_makeOneValid_21 : decode b_Node_makeOneValid 21 = .ok (.aload_n 0, 1) := by decide +kernel
theorem d_Node_makeOneValid_22 : decode b_Node_makeOneValid 22 = .ok (.iload_n 1, 1) := by decide +kernel
theorem d_Node_makeOneValid_23 : decode b_Node_makeOneValid 23 = .ok (.iload_n 2, 1) := by decide +kernel
theorem d_Node_makeOneValid_24 : decode b_Node_makeOneValid 24 = .ok (.invokevirtual 126, 3) := by decide +kernel
theorem d_Node_makeOneValid_27 : decode b_Node_makeOneValid 27 = .ok (.ifCond .eq 25, 3) := by decide +kernel
theorem d_Node_makeOneValid_30 : decode b_Node_makeOneValid 30 = .ok (.aload_n 0, 1) := by decide +kernel
theorem d_Node_makeOneValid_31 : decode b_Node_makeOneValid 31 = .ok (.getfield 38, 3) := by decide +kernel
theorem d_Node_makeOneValid_34 : decode b_Node_makeOneValid 34 = .ok (.iload_n 1, 1) := by decide +kernel
theorem d_Node_makeOneValid_35 : decode b_Node_makeOneValid 35 = .ok (.aaload, 1) := by decide +kernel
theorem d_Node_makeOneValid_36 : decode b_Node_makeOneValid 36 = .ok (.iload_n 2, 1) := by decide +kernel
theorem d_Node_makeOneValid_37 : decode b_Node_makeOneValid 37 = .ok (.aload_n 0, 1) := by decide +kernel
theorem d_Node_makeOneValid_38 : decode b_Node_makeOneValid 38 = .ok (.getfield 33, 3) := by decide +kernel
theorem d_Node_makeOneValid_41 : decode b_Node_makeOneValid 41 = .ok (.iload_n 1, 1) := by decide +kernel
theorem d_Node_makeOneValid_42 : decode b_Node_makeOneValid 42 = .ok (.iload_n 2, 1) := by decide +kernel
theorem d_Node_makeOneValid_43 : decode b_Node_makeOneValid 43 = .ok (.invokestatic 83, 3) := by decide +kernel
theorem d_Node_makeOneValid_46 : decode b_Node_makeOneValid 46 = .ok (.iaload, 1) := by decide +kernel
theorem d_Node_makeOneValid_47 : decode b_Node_makeOneValid 47 = .ok (.invokevirtual 129, 3) := by decide +kernel
theorem d_Node_makeOneValid_50 : decode b_Node_makeOneValid 50 = .ok (.iconst 1, 1) := by decide +kernel
theorem d_Node_makeOneValid_51 : decode b_Node_makeOneValid 51 = .ok (.ireturn, 1) := by decide +kernel
theorem d_Node_makeOneValid_52 : decode b_Node_makeOneValid 52 = .ok (.iinc 2 1, 3) := by decide +kernel
theorem d_Node_makeOneValid_55 : decode b_Node_makeOneValid 55 = .ok (.goto (-45), 3) := by decide +kernel
theorem d_Node_makeOneValid_58 : decode b_Node_makeOneValid 58 = .ok (.iinc 1 1, 3) := by decide +kernel
theorem d_Node_makeOneValid_61 : decode b_Node_makeOneValid 61 = .ok (.goto (-59), 3) := by decide +kernel
theorem d_Node_makeOneValid_64 : decode b_Node_makeOneValid 64 = .ok (.iconst 0, 1) := by decide +kernel
theorem d_Node_makeOneValid_65 : decode b_Node_makeOneValid 65 = .ok (.ireturn, 1) := by decide +kernel
theorem d_Node_goOn_0 : decode b_Node_goOn 0 = .ok (.aload_n 0, 1) := by decide +kernel
theorem d_Node_goOn_1 : decode b_Node_goOn 1 = .ok (.getfield 50, 3) := by decide +kernel
theorem d_Node_goOn_4 : decode b_Node_goOn 4 = .ok (.invokestatic 143, 3) := by decide +kernel
theorem d_Node_goOn_7 : decode b_Node_goOn 7 = .ok (.ifCond .eq 22, 3) := by decide +kernel
theorem d_Node_goOn_10 : decode b_Node_goOn 10 = .ok (.aload_n 0, 1) := by decide +kernel
theorem d_Node_goOn_11 : decode b_Node_goOn 11 = .ok (.getfield 62, 3) := by decide +kernel
theorem d_Node_goOn_14 : decode b_Node_goOn 14 = .ok (.aload_n 0, 1) := by decide +kernel
theorem d_Node_goOn_15 : decode b_Node_goOn 15 = .ok (.getfield 38, 3) := by decide +kernel
theorem d_Node_goOn_18 : decode b_Node_goOn 18 = .ok (.aload_n 0, 1) := by decide +kernel
theorem d_Node_goOn_19 : decode b_Node_goOn 19 = .ok (.getfield 50, 3) := by decide +kernel
theorem d_Node_goOn_22 : decode b_Node_goOn 22 = .ok (.aaload, 1) := by decide +kernel
theorem d_Node_goOn_23 : decode b_Node_goOn 23 = .ok (.invokevirtual 146, 3) := by decide +kernel
theorem d_Node_goOn_26 : decode b_Node_goOn 26 = .ok (.ifCond .ne 5, 3) := by decide +kernel
theorem d_Node_goOn_29 : decode b_Node_goOn 29 = .ok (.iconst 0, 1) := by decide +kernel
theorem d_Node_goOn_30 : decode b_Node_goOn 30 = .ok (.ireturn, 1) := by decide +kernel
theorem d_Node_goOn_31 : decode b_Node_goOn 31 = .ok (.aload_n 0, 1) := by decide +kernel
theorem d_Node_goOn_32 : decode b_Node_goOn 32 = .ok (.aload_n 0, 1) := by decide +kernel
theorem d_Node_goOn_33 : decode b_Node_goOn 33 = .ok (.getfield 50, 3) := by decide +kernel
theorem d_Node_goOn_36 : decode b_Node_goOn 36 = .ok (.iconst 1, 1) := by decide +kernel
theorem d_Node_goOn_37 : decode b_Node_goOn 37 = .ok (.iadd, 1) := by decide +kernel
theorem d_Node_goOn_38 : decode b_Node_goOn 38 = .ok (.aload_n 0, 1) := by decide +kernel
theorem d_Node_goOn_39 : decode b_Node_goOn 39 = .ok (.aload_n 0, 1) := by decide +kernel
theorem d_Node_goOn_40 : decode b_Node_goOn 40 = .ok (.getfield 50, 3) := by decide +kernel
theorem d_Node_goOn_43 : decode b_Node_goOn 43 = .ok (.invokevirtual 150, 3) := by decide +kernel
theorem d_Node_goOn_46 : decode b_Node_goOn 46 = .ok (.invokevirtual 153, 3) := by decide +kernel
theorem d_Node_goOn_49 : decode b_Node_goOn 49 = .ok (.iconst 1, 1) := by decide +kernel
theorem d_Node_goOn_50 : decode b_Node_goOn 50 = .ok (.ireturn, 1) := by decide +kernel
theorem d_Node_settle_0 : decode b_Node_settle 0 = .ok (.iconst 0, 1) := by decide +kernel
theorem d_Node_settle_1 : decode b_Node_settle 1 = .ok (.istore_n 1, 1) := by decide +kernel
theorem d_Node_settle_2 : decode b_Node_settle 2 = .ok (.iload_n 1, 1) := by decide +kernel
theorem d_Node_settle_3 : decode b_Node_settle 3 = .ok (.sipush 1000, 3) := by decide +kernel
theorem d_Node_settle_6 : decode b_Node_settle 6 = .ok (.if_icmp .ge 39, 3) := by decide +kernel
theorem d_Node_settle_9 : decode b_Node_settle 9 = .ok (.aload_n 0, 1) := by decide +kernel
theorem d_Node_settle_10 : decode b_Node_settle 10 = .ok (.aload_n 0, 1) := by decide +kernel
theorem d_Node_settle_11 : decode b_Node_settle 11 = .ok (.getfield 59, 3) := by decide +kernel
theorem d_Node_settle_14 : decode b_Node_settle 14 = .ok (.aload_n 0, 1) := by decide +kernel
theorem d_Node_settle_15 : decode b_Node_settle 15 = .ok (.getfield 12, 3) := by decide +kernel
theorem d_Node_settle_18 : decode b_Node_settle 18 = .ok (.invokevirtual 113, 3) := by decide +kernel
theorem d_Node_settle_21 : decode b_Node_settle 21 = .ok (.ifCond .ne 18, 3) := by decide +kernel
theorem d_Node_settle_24 : decode b_Node_settle 24 = .ok (.aload_n 0, 1) := by decide +kernel
theorem d_Node_settle_25 : decode b_Node_settle 25 = .ok (.invokevirtual 117, 3) := by decide +kernel
theorem d_Node_settle_28 : decode b_Node_settle 28 = .ok (.ifCond .ne 11, 3) := by decide +kernel
theorem d_Node_settle_31 : decode b_Node_settle 31 = .ok (.aload_n 0, 1) := by decide +kernel
theorem d_Node_settle_32 : decode b_Node_settle 32 = .ok (.invokevirtual 121, 3) := by decide +kernel
theorem d_Node_settle_35 : decode b_Node_settle 35 = .ok (.ifCond .ne 4, 3) := by decide +kernel
theorem d_Node_settle_38 : decode b_Node_settle 38 = .ok (.return_, 1) := by decide +kernel
theorem d_Node_settle_39 : decode b_Node_settle 39 = .ok (.iinc 1 1, 3) := by decide +kernel
theorem d_Node_settle_42 : decode b_Node_settle 42 = .ok (.goto (-40), 3) := by decide +kernel
theorem d_Node_settle_45 : decode b_Node_settle 45 = .ok (.return_, 1) := by decide +kernel
end
section
/-! Node_init -/
abbrev rm_Node_init : Room := { frames := 2, cells := 45, slots := 1424, locals := 40 }
def f_Node_init_117_b (self : Int → Int → Int → Int → er_Me → er_Me → Option (er_Me × er_Me)) (v0 v1 v2 v3 : Int) (T M : er_Me) : Option (er_Me × er_Me) :=
  if 0 ≤ v3 ∧ v3 ≤ 9 then
  if 9 ≤ v3 then
  some (T, M)
  else
  if T v0 (-2) = 3 ∧ 0 < T v0 7 then
  er_le (T 0 0 + 1) fun b3 =>
  er_le (er_nw T 6 0) fun T3 =>
  er_le (er_mw M b3) fun M3 =>
  (f_Row_init b3 T3 M3).bind fun q4 =>
  if q4.1 (T v0 7) (-2) = 104 ∧ q4.1 b3 (-2) = 6 ∧ 0 ≤ v3 ∧ v3 < q4.1 (T v0 7) (-1) then
  er_le (er_up q4.1 (T v0 7) v3 b3) fun T5 =>
  er_le (er_add v3 1) fun x6 =>
  self v0 v1 v2 x6 T5 q4.2 else none else none else none
def f_Node_init_117 : Nat → Int → Int → Int → Int → er_Me → er_Me → Option (er_Me × er_Me)
  | 0 => fun _ _ _ _ _ _ => none
  | n + 1 => fun v0 v1 v2 v3 T M => f_Node_init_117_b (f_Node_init_117 n) v0 v1 v2 v3 T M
set_option maxHeartbeats 4000000 in
theorem w_Node_init_117_b {K : er_K} {l : Launch} {X : er_X} (cx : er_Cx K l X b_Node_init "EchoedRounds$Node" 4 rm_Node_init) (hin : er_In K) {r : er_Me × er_Me} (rt : er_Rt K X b_Node_init (none) 45 1424 none r.1 r.2) {self : Int → Int → Int → Int → er_Me → er_Me → Option (er_Me × er_Me)} (hself : ∀ (v0 v1 v2 v3 : Int) (T M : er_Me) (cells slots : Nat), cells + 4 * (9 - v3).toNat ≤ 45 ∧ slots + 22 * (9 - v3).toNat ≤ 1424 → self v0 v1 v2 v3 T M = some r → er_G K cells slots T M 117 [(0, .inr v0), (1, .inl v1), (2, .inr v2), (3, .inl v3)] []) : ∀ (v0 v1 v2 v3 : Int) (T M : er_Me) (cells slots : Nat), cells + 4 * (9 - v3).toNat ≤ 45 ∧ slots + 22 * (9 - v3).toNat ≤ 1424 → f_Node_init_117_b self v0 v1 v2 v3 T M = some r → er_G K cells slots T M 117 [(0, .inr v0), (1, .inl v1), (2, .inr v2), (3, .inl v3)] [] := by
  intro v0 v1 v2 v3 T M cells slots hcs h
  unfold f_Node_init_117_b at h
  obtain ⟨c0, h⟩ := er_ck h
  refine er_iload_n cx d_Node_init_117 3 rfl ?_
  refine er_bipush (v := 9) cx d_Node_init_118 (by decide +kernel) (by decide) ?_
  refine er_ic_ge (tgt := 142) cx d_Node_init_120 (by decide) (fun b1 => ?_) (fun b1 => ?_)
  · have h := er_ift h b1
    obtain rfl := Option.some.inj h
    exact er_vret rt d_Node_init_142 (by omega) (by omega) ⟨rfl, rfl, rfl⟩
  · have h := er_iff h b1
    refine er_aload_n cx d_Node_init_123 0 rfl ?_
    obtain ⟨c2, h⟩ := er_ck h
    refine er_getr cx d_Node_init_124 fd_Node_38 c2.1 c2.2 ?_
    refine er_iload_n cx d_Node_init_127 3 rfl ?_
    obtain ⟨b3, eb3, h⟩ := er_lel h
    obtain ⟨T3, eT3, h⟩ := er_lel h
    obtain ⟨M3, eM3, h⟩ := er_lel h
    refine er_new cx d_Node_init_128 (by decide) cl_Row wm_80 wm_82 wm_7 (by show cells + 1 ≤ 45; omega) (by show slots + 4 ≤ 1424; omega) eT3 eb3 eM3 ?_
    refine er_dup cx d_Node_init_131 ?_
    obtain ⟨q4, e4, h⟩ := er_bd h
    refine er_callI (b := b3) (As := []) (st := [.inr b3, .inl v3, .inr (T v0 7)]) cx (c_Row_init e4) my_Node_66 ⟨by decide, by decide⟩ rfl (Nat.le_of_ble_eq_true rfl) d_Node_init_132 ⟨(by show cells + 1 + 3 ≤ 45; omega), (by show slots + 4 + 18 ≤ 1424; omega)⟩ rfl ?_
    obtain ⟨c5, h⟩ := er_ck h
    obtain ⟨T5, e5, h⟩ := er_lel h
    refine er_aast cx d_Node_init_135 c5.1 c5.2.1 cl_Row (by decide) (by decide) (Or.inr ⟨rfl, rfl⟩) c5.2.2.1 c5.2.2.2 e5 ?_
    obtain ⟨x6, e6, h⟩ := er_lel h
    have ea6 := er_addE (x := v3) (y := 1) (by constructor <;> omega)
    refine er_iinc cx d_Node_init_136 (k := 3) rfl (by decide) e6 rfl ?_
    refine er_goto (tgt := 117) cx d_Node_init_139 (by decide) ?_
    refine er_sb cx [1, 2, 3, 0] rfl ?_
    refine er_wd (k := cells + 4) (n := slots + 22) (by show cells + 1 + 3 ≤ _; omega) (by show slots + 4 + 18 ≤ _; omega) ?_
    exact hself _ _ _ _ _ _ _ _ (by omega) h
theorem w_Node_init_117 {K : er_K} {l : Launch} {X : er_X} (cx : er_Cx K l X b_Node_init "EchoedRounds$Node" 4 rm_Node_init) (hin : er_In K) {r : er_Me × er_Me} (rt : er_Rt K X b_Node_init (none) 45 1424 none r.1 r.2) : ∀ n : Nat, ∀ (v0 v1 v2 v3 : Int) (T M : er_Me) (cells slots : Nat), cells + 4 * (9 - v3).toNat ≤ 45 ∧ slots + 22 * (9 - v3).toNat ≤ 1424 → f_Node_init_117 n v0 v1 v2 v3 T M = some r → er_G K cells slots T M 117 [(0, .inr v0), (1, .inl v1), (2, .inr v2), (3, .inl v3)] [] := by
  intro n
  induction n with
  | zero =>
    intro v0 v1 v2 v3 T M cells slots hcs h
    cases h
  | succ n ih =>
    intro v0 v1 v2 v3 T M cells slots hcs h
    exact w_Node_init_117_b cx hin rt ih v0 v1 v2 v3 T M cells slots hcs h
def f_Node_init_96_b (self : Int → Int → Int → Int → er_Me → er_Me → Option (er_Me × er_Me)) (v0 v1 v2 v3 : Int) (T M : er_Me) : Option (er_Me × er_Me) :=
  if 63 ≤ v3 then
  f_Node_init_117 er_fu v0 v1 v2 0 T M
  else
  if T v0 (-2) = 3 ∧ 0 < T v0 6 then
  if T (T v0 6) (-2) = 101 ∧ 0 ≤ v3 ∧ v3 < T (T v0 6) (-1) then
  er_le (er_up M (T v0 6) v3 (-1)) fun M3 =>
  er_le (er_add v3 1) fun x4 =>
  self v0 v1 v2 x4 T M3 else none else none
def f_Node_init_96 : Nat → Int → Int → Int → Int → er_Me → er_Me → Option (er_Me × er_Me)
  | 0 => fun _ _ _ _ _ _ => none
  | n + 1 => fun v0 v1 v2 v3 T M => f_Node_init_96_b (f_Node_init_96 n) v0 v1 v2 v3 T M
set_option maxHeartbeats 4000000 in
theorem w_Node_init_96_b {K : er_K} {l : Launch} {X : er_X} (cx : er_Cx K l X b_Node_init "EchoedRounds$Node" 4 rm_Node_init) (hin : er_In K) {r : er_Me × er_Me} (rt : er_Rt K X b_Node_init (none) 45 1424 none r.1 r.2) {self : Int → Int → Int → Int → er_Me → er_Me → Option (er_Me × er_Me)} (hself : ∀ (v0 v1 v2 v3 : Int) (T M : er_Me), self v0 v1 v2 v3 T M = some r → er_G K 9 1226 T M 96 [(0, .inr v0), (1, .inl v1), (2, .inr v2), (3, .inl v3)] []) : ∀ (v0 v1 v2 v3 : Int) (T M : er_Me), f_Node_init_96_b self v0 v1 v2 v3 T M = some r → er_G K 9 1226 T M 96 [(0, .inr v0), (1, .inl v1), (2, .inr v2), (3, .inl v3)] [] := by
  intro v0 v1 v2 v3 T M h
  unfold f_Node_init_96_b at h
  refine er_iload_n cx d_Node_init_96 3 rfl ?_
  refine er_bipush (v := 63) cx d_Node_init_97 (by decide +kernel) (by decide) ?_
  refine er_ic_ge (tgt := 115) cx d_Node_init_99 (by decide) (fun b1 => ?_) (fun b1 => ?_)
  · have h := er_ift h b1
    refine er_iconst (v := 0) cx d_Node_init_115 rfl (by decide) ?_
    refine er_istore_n cx d_Node_init_116 rfl (by decide) rfl ?_
    refine er_sb cx [1, 2, 3, 0] rfl ?_
    exact w_Node_init_117 cx hin rt er_fu _ _ _ _ _ _ _ _ (by decide) h
  · have h := er_iff h b1
    refine er_aload_n cx d_Node_init_102 0 rfl ?_
    obtain ⟨c2, h⟩ := er_ck h
    refine er_getr cx d_Node_init_103 fd_Node_33 c2.1 c2.2 ?_
    refine er_iload_n cx d_Node_init_106 3 rfl ?_
    refine er_iconst (v := -1) cx d_Node_init_107 rfl (by decide) ?_
    obtain ⟨c3, h⟩ := er_ck h
    obtain ⟨M3, e3, h⟩ := er_lel h
    refine er_iast cx d_Node_init_108 c3.1 c3.2.1 c3.2.2 e3 ?_
    obtain ⟨x4, e4, h⟩ := er_lel h
    refine er_iinc cx d_Node_init_109 (k := 3) rfl (by decide) e4 rfl ?_
    refine er_goto (tgt := 96) cx d_Node_init_112 (by decide) ?_
    refine er_sb cx [1, 2, 3, 0] rfl ?_
    exact hself _ _ _ _ _ _ h
theorem w_Node_init_96 {K : er_K} {l : Launch} {X : er_X} (cx : er_Cx K l X b_Node_init "EchoedRounds$Node" 4 rm_Node_init) (hin : er_In K) {r : er_Me × er_Me} (rt : er_Rt K X b_Node_init (none) 45 1424 none r.1 r.2) : ∀ n : Nat, ∀ (v0 v1 v2 v3 : Int) (T M : er_Me), f_Node_init_96 n v0 v1 v2 v3 T M = some r → er_G K 9 1226 T M 96 [(0, .inr v0), (1, .inl v1), (2, .inr v2), (3, .inl v3)] [] := by
  intro n
  induction n with
  | zero =>
    intro v0 v1 v2 v3 T M h
    cases h
  | succ n ih =>
    intro v0 v1 v2 v3 T M h
    exact w_Node_init_96_b cx hin rt ih v0 v1 v2 v3 T M h
def f_Node_init (p0 p1 p2 : Int) (T M : er_Me) : Option (er_Me × er_Me) :=
  er_le (T 0 0 + 1) fun b2 =>
  er_le (er_nw T 4 0) fun T2 =>
  er_le (er_mw M b2) fun M2 =>
  (f_Log_init b2 T2 M2).bind fun q3 =>
  if q3.1 p0 (-2) = 3 ∧ 0 < b2 then
  er_le (er_up q3.1 p0 2 b2) fun T4 =>
  er_le (T4 0 0 + 1) fun b5 =>
  er_le (er_nw T4 5 0) fun T5 =>
  er_le (er_mw q3.2 b5) fun M5 =>
  (f_Tally_init b5 T5 M5).bind fun q6 =>
  if q6.1 p0 (-2) = 3 ∧ 0 < b5 then
  er_le (er_up q6.1 p0 3 b5) fun T7 =>
  er_le (T7 0 0 + 1) fun b8 =>
  er_le (er_nw T7 101 7) fun T8 =>
  er_le (er_mw q6.2 b8) fun M8 =>
  if T8 p0 (-2) = 3 ∧ 0 < b8 then
  er_le (er_up T8 p0 4 b8) fun T9 =>
  er_le (T9 0 0 + 1) fun b10 =>
  er_le (er_nw T9 102 63) fun T10 =>
  er_le (er_mw M8 b10) fun M10 =>
  if T10 p0 (-2) = 3 ∧ 0 < b10 then
  er_le (er_up T10 p0 5 b10) fun T11 =>
  er_le (T11 0 0 + 1) fun b12 =>
  er_le (er_nw T11 101 63) fun T12 =>
  er_le (er_mw M10 b12) fun M12 =>
  if T12 p0 (-2) = 3 ∧ 0 < b12 then
  er_le (er_up T12 p0 6 b12) fun T13 =>
  er_le (T13 0 0 + 1) fun b14 =>
  er_le (er_nw T13 104 9) fun T14 =>
  er_le (er_mw M12 b14) fun M14 =>
  if T14 p0 (-2) = 3 ∧ 0 < b14 then
  er_le (er_up T14 p0 7 b14) fun T15 =>
  if T15 p0 (-2) = 3 then
  er_le (er_up M14 p0 8 1) fun M16 =>
  er_le (er_up M16 p0 9 0) fun M17 =>
  er_le (er_up M17 p0 10 (-1)) fun M18 =>
  er_le (er_up M18 p0 11 (-1)) fun M19 =>
  er_le (er_up M19 p0 12 (-1)) fun M20 =>
  er_le (er_up M20 p0 0 p1) fun M21 =>
  if 0 < p2 then
  er_le (er_up T15 p0 1 p2) fun T22 =>
  f_Node_init_96 er_fu p0 p1 p2 0 T22 M21 else none else none else none else none else none else none else none else none
set_option maxHeartbeats 4000000 in
theorem w_Node_init {K : er_K} {l : Launch} {X : er_X} (cx : er_Cx K l X b_Node_init "EchoedRounds$Node" 4 rm_Node_init) (hin : er_In K) {r : er_Me × er_Me} {p0 p1 p2 : Int} {T M : er_Me} (rt : er_Rt K X b_Node_init (none) 45 1424 none r.1 r.2) (h : f_Node_init p0 p1 p2 T M = some r) : er_G K 0 0 T M 0 [(0, .inr p0), (1, .inl p1), (2, .inr p2)] [] := by
  unfold f_Node_init at h
  refine er_aload_n cx d_Node_init_0 0 rfl ?_
  refine er_obj cx d_Node_init_1 wm_51 wm_15 wm_16 (by decide) (Nat.le_of_ble_eq_true rfl) ?_
  refine er_aload_n cx d_Node_init_4 0 rfl ?_
  obtain ⟨b2, eb2, h⟩ := er_lel h
  obtain ⟨T2, eT2, h⟩ := er_lel h
  obtain ⟨M2, eM2, h⟩ := er_lel h
  refine er_new cx d_Node_init_5 (by decide) cl_Log wm_52 wm_53 wm_5 (by decide) (by decide) eT2 eb2 eM2 ?_
  refine er_dup cx d_Node_init_8 ?_
  obtain ⟨q3, e3, h⟩ := er_bd h
  refine er_callI (b := b2) (As := []) (st := [.inr b2, .inr p0]) cx (c_Log_init e3) my_Node_11 ⟨by decide, by decide⟩ rfl (Nat.le_of_ble_eq_true rfl) d_Node_init_9 ⟨(by decide), (by decide)⟩ rfl ?_
  obtain ⟨c4, h⟩ := er_ck h
  obtain ⟨T4, e4, h⟩ := er_lel h
  refine er_putr cx d_Node_init_12 fd_Node_12 c4.1 (fun _ => ⟨hin, rfl, rfl⟩) (fun _ => rfl) (fun _ => rfl) c4.2 e4 ?_
  refine er_aload_n cx d_Node_init_15 0 rfl ?_
  obtain ⟨b5, eb5, h⟩ := er_lel h
  obtain ⟨T5, eT5, h⟩ := er_lel h
  obtain ⟨M5, eM5, h⟩ := er_lel h
  refine er_new cx d_Node_init_16 (by decide) cl_Tally wm_67 wm_68 wm_6 (by decide) (by decide) eT5 eb5 eM5 ?_
  refine er_dup cx d_Node_init_19 ?_
  obtain ⟨q6, e6, h⟩ := er_bd h
  refine er_callI (b := b5) (As := []) (st := [.inr b5, .inr p0]) cx (c_Tally_init e6) my_Node_20 ⟨by decide, by decide⟩ rfl (Nat.le_of_ble_eq_true rfl) d_Node_init_20 ⟨(by decide), (by decide)⟩ rfl ?_
  obtain ⟨c7, h⟩ := er_ck h
  obtain ⟨T7, e7, h⟩ := er_lel h
  refine er_putr cx d_Node_init_23 fd_Node_21 c7.1 (fun _ => ⟨hin, rfl, rfl⟩) (fun _ => rfl) (fun _ => rfl) c7.2 e7 ?_
  refine er_aload_n cx d_Node_init_26 0 rfl ?_
  refine er_bipush (v := 7) cx d_Node_init_27 (by decide +kernel) (by decide) ?_
  obtain ⟨b8, eb8, h⟩ := er_lel h
  obtain ⟨T8, eT8, h⟩ := er_lel h
  obtain ⟨M8, eM8, h⟩ := er_lel h
  refine er_newa (t := 0) (N := 7) cx d_Node_init_29 wm_66 (by decide) rfl (by decide) rfl (by decide) (by decide) (by decide) eT8 eb8 eM8 ?_
  obtain ⟨c9, h⟩ := er_ck h
  obtain ⟨T9, e9, h⟩ := er_lel h
  refine er_putr cx d_Node_init_31 fd_Node_25 c9.1 (fun _ => ⟨hin, rfl, rfl⟩) (fun _ => rfl) (fun _ => rfl) c9.2 e9 ?_
  refine er_aload_n cx d_Node_init_34 0 rfl ?_
  refine er_bipush (v := 63) cx d_Node_init_35 (by decide +kernel) (by decide) ?_
  obtain ⟨b10, eb10, h⟩ := er_lel h
  obtain ⟨T10, eT10, h⟩ := er_lel h
  obtain ⟨M10, eM10, h⟩ := er_lel h
  refine er_newa (t := 1) (N := 63) cx d_Node_init_37 wm_102 (by decide) rfl (by decide) rfl (by decide) (by decide) (by decide) eT10 eb10 eM10 ?_
  obtain ⟨c11, h⟩ := er_ck h
  obtain ⟨T11, e11, h⟩ := er_lel h
  refine er_putr cx d_Node_init_39 fd_Node_29 c11.1 (fun _ => ⟨hin, rfl, rfl⟩) (fun _ => rfl) (fun _ => rfl) c11.2 e11 ?_
  refine er_aload_n cx d_Node_init_42 0 rfl ?_
  refine er_bipush (v := 63) cx d_Node_init_43 (by decide +kernel) (by decide) ?_
  obtain ⟨b12, eb12, h⟩ := er_lel h
  obtain ⟨T12, eT12, h⟩ := er_lel h
  obtain ⟨M12, eM12, h⟩ := er_lel h
  refine er_newa (t := 0) (N := 63) cx d_Node_init_45 wm_66 (by decide) rfl (by decide) rfl (by decide) (by decide) (by decide) eT12 eb12 eM12 ?_
  obtain ⟨c13, h⟩ := er_ck h
  obtain ⟨T13, e13, h⟩ := er_lel h
  refine er_putr cx d_Node_init_47 fd_Node_33 c13.1 (fun _ => ⟨hin, rfl, rfl⟩) (fun _ => rfl) (fun _ => rfl) c13.2 e13 ?_
  refine er_aload_n cx d_Node_init_50 0 rfl ?_
  refine er_bipush (v := 9) cx d_Node_init_51 (by decide +kernel) (by decide) ?_
  obtain ⟨b14, eb14, h⟩ := er_lel h
  obtain ⟨T14, eT14, h⟩ := er_lel h
  obtain ⟨M14, eM14, h⟩ := er_lel h
  refine er_newq (t := 3) cx d_Node_init_53 wm_80 (by decide) (Or.inr ⟨rfl, rfl⟩) (by decide) (by decide) (by decide) (by decide) (by decide) eT14 eb14 eM14 ?_
  obtain ⟨c15, h⟩ := er_ck h
  obtain ⟨T15, e15, h⟩ := er_lel h
  refine er_putr cx d_Node_init_56 fd_Node_38 c15.1 (fun _ => ⟨hin, rfl, rfl⟩) (fun _ => rfl) (fun _ => rfl) c15.2 e15 ?_
  refine er_aload_n cx d_Node_init_59 0 rfl ?_
  refine er_iconst (v := 1) cx d_Node_init_60 rfl (by decide) ?_
  obtain ⟨c16, h⟩ := er_ck h
  obtain ⟨M16, e16, h⟩ := er_lel h
  refine er_putz cx d_Node_init_61 fd_Node_42 c16 (fun q => by cases q) (Or.inr rfl) e16 ?_
  refine er_aload_n cx d_Node_init_64 0 rfl ?_
  refine er_iconst (v := 0) cx d_Node_init_65 rfl (by decide) ?_
  obtain ⟨M17, e17, h⟩ := er_lel h
  refine er_puti cx d_Node_init_66 fd_Node_46 c16 (fun q => by cases q) e17 ?_
  refine er_aload_n cx d_Node_init_69 0 rfl ?_
  refine er_iconst (v := -1) cx d_Node_init_70 rfl (by decide) ?_
  obtain ⟨M18, e18, h⟩ := er_lel h
  refine er_puti cx d_Node_init_71 fd_Node_50 c16 (fun q => by cases q) e18 ?_
  refine er_aload_n cx d_Node_init_74 0 rfl ?_
  refine er_iconst (v := -1) cx d_Node_init_75 rfl (by decide) ?_
  obtain ⟨M19, e19, h⟩ := er_lel h
  refine er_puti cx d_Node_init_76 fd_Node_53 c16 (fun q => by cases q) e19 ?_
  refine er_aload_n cx d_Node_init_79 0 rfl ?_
  refine er_iconst (v := -1) cx d_Node_init_80 rfl (by decide) ?_
  obtain ⟨M20, e20, h⟩ := er_lel h
  refine er_puti cx d_Node_init_81 fd_Node_56 c16 (fun q => by cases q) e20 ?_
  refine er_aload_n cx d_Node_init_84 0 rfl ?_
  refine er_iload_n cx d_Node_init_85 1 rfl ?_
  obtain ⟨M21, e21, h⟩ := er_lel h
  refine er_puti cx d_Node_init_86 fd_Node_59 c16 (fun _ => ⟨hin, rfl, rfl⟩) e21 ?_
  refine er_aload_n cx d_Node_init_89 0 rfl ?_
  refine er_aload_n cx d_Node_init_90 2 rfl ?_
  obtain ⟨c22, h⟩ := er_ck h
  obtain ⟨T22, e22, h⟩ := er_lel h
  refine er_putr cx d_Node_init_91 fd_Node_62 c16 (fun _ => ⟨hin, rfl, rfl⟩) (fun _ => rfl) (fun _ => rfl) c22 e22 ?_
  refine er_iconst (v := 0) cx d_Node_init_94 rfl (by decide) ?_
  refine er_istore_n cx d_Node_init_95 rfl (by decide) rfl ?_
  refine er_sb cx [1, 2, 3, 0] rfl ?_
  exact w_Node_init_96 cx hin rt er_fu _ _ _ _ _ _ h
theorem c_Node_init {l : Launch} {X : er_X} {r : er_Me × er_Me} {p0 p1 p2 : Int} {T M : er_Me} (h : f_Node_init p0 p1 p2 T M = some r) (hok : ∀ v ∈ ([.inr p0, .inl p1, .inr p2] : List er_V), er_ok v) : er_Ct l X y_Node_init b_Node_init 4 (none) rm_Node_init [.inr p0, .inl p1, .inr p2] T M none r.1 r.2 :=
  er_ct rfl rfl (Nat.le_of_ble_eq_true rfl) hok (fun K cx rt hin => w_Node_init cx (hin rfl) rt h)
/-! Node_enter -/
abbrev rm_Node_enter : Room := { frames := 1, cells := 0, slots := 0, locals := 23 }
def f_Node_enter (p0 p1 p2 : Int) (T M : er_Me) : Option (er_Me) :=
  if T p0 (-2) = 3 then
  er_le (er_up M p0 10 p1) fun M1 =>
  er_le (er_up M1 p0 11 p2) fun M2 =>
  if 9 ≤ p1 then
  some M2
  else
  if 0 < T p0 2 then
  (f_ER_codeOf 0 p1 (M2 p0 0) p2 T M2).bind fun q6 =>
  if T (T p0 2) (-2) = 4 then
  (f_Log_append (T p0 2) q6.1 T q6.2).bind fun q7 =>
  some q7 else none else none else none
set_option maxHeartbeats 4000000 in
theorem w_Node_enter {K : er_K} {l : Launch} {X : er_X} (cx : er_Cx K l X b_Node_enter "EchoedRounds$Node" 3 rm_Node_enter) {r : er_Me} {p0 p1 p2 : Int} {T M : er_Me} (rt : er_Rt K X b_Node_enter (none) 0 0 none T r) (h : f_Node_enter p0 p1 p2 T M = some r) : er_G K 0 0 T M 0 [(0, .inr p0), (1, .inl p1), (2, .inl p2)] [] := by
  unfold f_Node_enter at h
  refine er_aload_n cx d_Node_enter_0 0 rfl ?_
  refine er_iload_n cx d_Node_enter_1 1 rfl ?_
  obtain ⟨c1, h⟩ := er_ck h
  obtain ⟨M1, e1, h⟩ := er_lel h
  refine er_puti cx d_Node_enter_2 fd_Node_50 c1 (fun q => by cases q) e1 ?_
  refine er_aload_n cx d_Node_enter_5 0 rfl ?_
  refine er_iload_n cx d_Node_enter_6 2 rfl ?_
  obtain ⟨M2, e2, h⟩ := er_lel h
  refine er_puti cx d_Node_enter_7 fd_Node_53 c1 (fun q => by cases q) e2 ?_
  refine er_iload_n cx d_Node_enter_10 1 rfl ?_
  refine er_bipush (v := 9) cx d_Node_enter_11 (by decide +kernel) (by decide) ?_
  refine er_ic_ge (tgt := 33) cx d_Node_enter_13 (by decide) (fun b3 => ?_) (fun b3 => ?_)
  · have h := er_ift h b3
    obtain rfl := Option.some.inj h
    exact er_vret rt d_Node_enter_33 (by decide) (by decide) ⟨rfl, rfl, rfl⟩
  · have h := er_iff h b3
    refine er_aload_n cx d_Node_enter_16 0 rfl ?_
    obtain ⟨c4, h⟩ := er_ck h
    refine er_getr cx d_Node_enter_17 fd_Node_12 c1 c4 ?_
    refine er_iconst (v := 0) cx d_Node_enter_20 rfl (by decide) ?_
    refine er_iload_n cx d_Node_enter_21 1 rfl ?_
    refine er_aload_n cx d_Node_enter_22 0 rfl ?_
    refine er_geti cx d_Node_enter_23 fd_Node_59 c1 ?_
    refine er_iload_n cx d_Node_enter_26 2 rfl ?_
    obtain ⟨q6, e6, h⟩ := er_bd h
    refine er_callS (As := [.inl 0, .inl p1, .inl (M2 p0 0), .inl p2]) (st := [.inr (T p0 2)]) cx (c_ER_codeOf e6) my_Node_67 ⟨by decide, by decide⟩ rfl (Nat.le_of_ble_eq_true rfl) d_Node_enter_27 ⟨Nat.zero_le _, Nat.zero_le _⟩ rfl ?_
    obtain ⟨c7, h⟩ := er_ck h
    obtain ⟨q7, e7, h⟩ := er_bd h
    refine er_callV (b := T p0 2) (As := [.inl q6.1]) (st := []) cx (c_Log_append e7) my_Node_71 c7 ⟨by decide, by decide⟩ rfl (Nat.le_of_ble_eq_true rfl) d_Node_enter_30 ⟨Nat.zero_le _, Nat.zero_le _⟩ rfl ?_
    obtain rfl := Option.some.inj h
    exact er_vret rt d_Node_enter_33 (by decide) (by decide) ⟨rfl, rfl, rfl⟩
theorem c_Node_enter {l : Launch} {X : er_X} {r : er_Me} {p0 p1 p2 : Int} {T M : er_Me} (h : f_Node_enter p0 p1 p2 T M = some r) (hok : ∀ v ∈ ([.inr p0, .inl p1, .inl p2] : List er_V), er_ok v) : er_Ct l X y_Node_enter b_Node_enter 3 (none) rm_Node_enter [.inr p0, .inl p1, .inl p2] T M none T r :=
  er_ct rfl rfl (Nat.le_of_ble_eq_true rfl) hok (fun K cx rt hin => w_Node_enter cx rt h)
/-! Node_sendReadyOnce -/
abbrev rm_Node_sendReadyOnce : Room := { frames := 1, cells := 0, slots := 0, locals := 23 }
def f_Node_sendReadyOnce (p0 p1 p2 p3 : Int) (T M : er_Me) : Option (er_Me) :=
  (f_ER_cellOf p1 p2 T M).bind fun q1 =>
  if T p0 (-2) = 3 ∧ 0 < T p0 5 then
  if T (T p0 5) (-2) = 102 ∧ 0 ≤ q1.1 ∧ q1.1 < T (T p0 5) (-1) then
  if q1.2 (T p0 5) q1.1 = 0 then
  er_le (er_up q1.2 (T p0 5) q1.1 1) fun M6 =>
  if 0 < T p0 2 then
  (f_ER_codeOf 2 p1 p2 p3 T M6).bind fun q8 =>
  if T (T p0 2) (-2) = 4 then
  (f_Log_append (T p0 2) q8.1 T q8.2).bind fun q9 =>
  some q9 else none else none
  else
  some q1.2 else none else none
set_option maxHeartbeats 4000000 in
theorem w_Node_sendReadyOnce {K : er_K} {l : Launch} {X : er_X} (cx : er_Cx K l X b_Node_sendReadyOnce "EchoedRounds$Node" 5 rm_Node_sendReadyOnce) {r : er_Me} {p0 p1 p2 p3 : Int} {T M : er_Me} (rt : er_Rt K X b_Node_sendReadyOnce (none) 0 0 none T r) (h : f_Node_sendReadyOnce p0 p1 p2 p3 T M = some r) : er_G K 0 0 T M 0 [(0, .inr p0), (1, .inl p1), (2, .inl p2), (3, .inl p3)] [] := by
  unfold f_Node_sendReadyOnce at h
  refine er_iload_n cx d_Node_sendReadyOnce_0 1 rfl ?_
  refine er_iload_n cx d_Node_sendReadyOnce_1 2 rfl ?_
  obtain ⟨q1, e1, h⟩ := er_bd h
  refine er_callS (As := [.inl p1, .inl p2]) (st := []) cx (c_ER_cellOf e1) my_Node_83 ⟨by decide, by decide⟩ rfl (Nat.le_of_ble_eq_true rfl) d_Node_sendReadyOnce_2 ⟨Nat.zero_le _, Nat.zero_le _⟩ rfl ?_
  refine er_istore cx d_Node_sendReadyOnce_5 (by decide) rfl ?_
  refine er_aload_n cx d_Node_sendReadyOnce_7 1 rfl ?_
  obtain ⟨c2, h⟩ := er_ck h
  refine er_getr cx d_Node_sendReadyOnce_8 fd_Node_29 c2.1 c2.2 ?_
  refine er_iload cx d_Node_sendReadyOnce_11 0 rfl ?_
  obtain ⟨c3, h⟩ := er_ck h
  refine er_zald cx d_Node_sendReadyOnce_13 c3.1 c3.2.1 c3.2.2 ?_
  refine er_if_ne (tgt := 39) cx d_Node_sendReadyOnce_14 (by decide) (fun b4 => ?_) (fun b4 => ?_)
  · have h := er_iff h b4
    obtain rfl := Option.some.inj h
    exact er_vret rt d_Node_sendReadyOnce_39 (by decide) (by decide) ⟨rfl, rfl, rfl⟩
  · have h := er_ift h b4
    refine er_aload_n cx d_Node_sendReadyOnce_17 1 rfl ?_
    refine er_getr cx d_Node_sendReadyOnce_18 fd_Node_29 c2.1 c2.2 ?_
    refine er_iload cx d_Node_sendReadyOnce_21 0 rfl ?_
    refine er_iconst (v := 1) cx d_Node_sendReadyOnce_23 rfl (by decide) ?_
    obtain ⟨M6, e6, h⟩ := er_lel h
    refine er_zast cx d_Node_sendReadyOnce_24 c3.1 c3.2.1 c3.2.2 (Or.inr rfl) e6 ?_
    refine er_aload_n cx d_Node_sendReadyOnce_25 1 rfl ?_
    obtain ⟨c7, h⟩ := er_ck h
    refine er_getr cx d_Node_sendReadyOnce_26 fd_Node_12 c2.1 c7 ?_
    refine er_iconst (v := 2) cx d_Node_sendReadyOnce_29 rfl (by decide) ?_
    refine er_iload_n cx d_Node_sendReadyOnce_30 2 rfl ?_
    refine er_iload_n cx d_Node_sendReadyOnce_31 3 rfl ?_
    refine er_iload_n cx d_Node_sendReadyOnce_32 4 rfl ?_
    obtain ⟨q8, e8, h⟩ := er_bd h
    refine er_callS (As := [.inl 2, .inl p1, .inl p2, .inl p3]) (st := [.inr (T p0 2)]) cx (c_ER_codeOf e8) my_Node_67 ⟨by decide, by decide⟩ rfl (Nat.le_of_ble_eq_true rfl) d_Node_sendReadyOnce_33 ⟨Nat.zero_le _, Nat.zero_le _⟩ rfl ?_
    obtain ⟨c9, h⟩ := er_ck h
    obtain ⟨q9, e9, h⟩ := er_bd h
    refine er_callV (b := T p0 2) (As := [.inl q8.1]) (st := []) cx (c_Log_append e9) my_Node_71 c9 ⟨by decide, by decide⟩ rfl (Nat.le_of_ble_eq_true rfl) d_Node_sendReadyOnce_36 ⟨Nat.zero_le _, Nat.zero_le _⟩ rfl ?_
    obtain rfl := Option.some.inj h
    exact er_vret rt d_Node_sendReadyOnce_39 (by decide) (by decide) ⟨rfl, rfl, rfl⟩
theorem c_Node_sendReadyOnce {l : Launch} {X : er_X} {r : er_Me} {p0 p1 p2 p3 : Int} {T M : er_Me} (h : f_Node_sendReadyOnce p0 p1 p2 p3 T M = some r) (hok : ∀ v ∈ ([.inr p0, .inl p1, .inl p2, .inl p3] : List er_V), er_ok v) : er_Ct l X y_Node_sendReadyOnce b_Node_sendReadyOnce 5 (none) rm_Node_sendReadyOnce [.inr p0, .inl p1, .inl p2, .inl p3] T M none T r :=
  er_ct rfl rfl (Nat.le_of_ble_eq_true rfl) hok (fun K cx rt hin => w_Node_sendReadyOnce cx rt h)
/-! Node_hearEcho -/
abbrev rm_Node_hearEcho : Room := { frames := 2, cells := 0, slots := 0, locals := 47 }
def f_Node_hearEcho (p0 p1 p2 p3 : Int) (T M : er_Me) : Option (er_Me) :=
  if T p0 (-2) = 3 ∧ 0 < T p0 3 then
  (f_ER_cellOf p1 p2 T M).bind fun q2 =>
  if T (T p0 3) (-2) = 5 then
  (f_Tally_count (T p0 3) 1 q2.1 p3 T q2.2).bind fun q3 =>
  if 0 < T p0 1 then
  if T (T p0 1) (-2) = 2 then
  if q3.1 < q3.2 (T p0 1) 3 then
  some q3.2
  else
  (f_Node_sendReadyOnce p0 p1 p2 p3 T q3.2).bind fun q7 =>
  some q7 else none else none else none else none
set_option maxHeartbeats 4000000 in
theorem w_Node_hearEcho {K : er_K} {l : Launch} {X : er_X} (cx : er_Cx K l X b_Node_hearEcho "EchoedRounds$Node" 4 rm_Node_hearEcho) {r : er_Me} {p0 p1 p2 p3 : Int} {T M : er_Me} (rt : er_Rt K X b_Node_hearEcho (none) 0 0 none T r) (h : f_Node_hearEcho p0 p1 p2 p3 T M = some r) : er_G K 0 0 T M 0 [(0, .inr p0), (1, .inl p1), (2, .inl p2), (3, .inl p3)] [] := by
  unfold f_Node_hearEcho at h
  refine er_aload_n cx d_Node_hearEcho_0 0 rfl ?_
  obtain ⟨c1, h⟩ := er_ck h
  refine er_getr cx d_Node_hearEcho_1 fd_Node_21 c1.1 c1.2 ?_
  refine er_iconst (v := 1) cx d_Node_hearEcho_4 rfl (by decide) ?_
  refine er_iload_n cx d_Node_hearEcho_5 1 rfl ?_
  refine er_iload_n cx d_Node_hearEcho_6 2 rfl ?_
  obtain ⟨q2, e2, h⟩ := er_bd h
  refine er_callS (As := [.inl p1, .inl p2]) (st := [.inl 1, .inr (T p0 3)]) cx (c_ER_cellOf e2) my_Node_83 ⟨by decide, by decide⟩ rfl (Nat.le_of_ble_eq_true rfl) d_Node_hearEcho_7 ⟨Nat.zero_le _, Nat.zero_le _⟩ rfl ?_
  refine er_iload_n cx d_Node_hearEcho_10 3 rfl ?_
  obtain ⟨c3, h⟩ := er_ck h
  obtain ⟨q3, e3, h⟩ := er_bd h
  refine er_callV (b := T p0 3) (As := [.inl 1, .inl q2.1, .inl p3]) (st := []) cx (c_Tally_count e3) my_Node_98 c3 ⟨by decide, by decide⟩ rfl (Nat.le_of_ble_eq_true rfl) d_Node_hearEcho_11 ⟨Nat.zero_le _, Nat.zero_le _⟩ rfl ?_
  refine er_aload_n cx d_Node_hearEcho_14 0 rfl ?_
  obtain ⟨c4, h⟩ := er_ck h
  refine er_getr cx d_Node_hearEcho_15 fd_Node_62 c1.1 c4 ?_
  obtain ⟨c5, h⟩ := er_ck h
  refine er_geti cx d_Node_hearEcho_18 fd_Node_102 c5 ?_
  refine er_ic_lt (tgt := 31) cx d_Node_hearEcho_21 (by decide) (fun b6 => ?_) (fun b6 => ?_)
  · have h := er_ift h b6
    obtain rfl := Option.some.inj h
    exact er_vret rt d_Node_hearEcho_31 (by decide) (by decide) ⟨rfl, rfl, rfl⟩
  · have h := er_iff h b6
    refine er_aload_n cx d_Node_hearEcho_24 0 rfl ?_
    refine er_iload_n cx d_Node_hearEcho_25 1 rfl ?_
    refine er_iload_n cx d_Node_hearEcho_26 2 rfl ?_
    refine er_iload_n cx d_Node_hearEcho_27 3 rfl ?_
    obtain ⟨q7, e7, h⟩ := er_bd h
    refine er_callV (b := p0) (As := [.inl p1, .inl p2, .inl p3]) (st := []) cx (c_Node_sendReadyOnce e7) my_Node_107 c1.1 ⟨by decide, by decide⟩ rfl (Nat.le_of_ble_eq_true rfl) d_Node_hearEcho_28 ⟨Nat.zero_le _, Nat.zero_le _⟩ rfl ?_
    obtain rfl := Option.some.inj h
    exact er_vret rt d_Node_hearEcho_31 (by decide) (by decide) ⟨rfl, rfl, rfl⟩
theorem c_Node_hearEcho {l : Launch} {X : er_X} {r : er_Me} {p0 p1 p2 p3 : Int} {T M : er_Me} (h : f_Node_hearEcho p0 p1 p2 p3 T M = some r) (hok : ∀ v ∈ ([.inr p0, .inl p1, .inl p2, .inl p3] : List er_V), er_ok v) : er_Ct l X y_Node_hearEcho b_Node_hearEcho 4 (none) rm_Node_hearEcho [.inr p0, .inl p1, .inl p2, .inl p3] T M none T r :=
  er_ct rfl rfl (Nat.le_of_ble_eq_true rfl) hok (fun K cx rt hin => w_Node_hearEcho cx rt h)
/-! Node_hearReady -/
abbrev rm_Node_hearReady : Room := { frames := 2, cells := 0, slots := 0, locals := 47 }
def f_Node_hearReady_41 (T : er_Me) (v0 v1 v2 v3 v4 v5 : Int) (M : er_Me) : Option (er_Me) :=
  if T v0 (-2) = 3 ∧ 0 < T v0 1 then
  if T (T v0 1) (-2) = 2 then
  if v5 < er_add (er_mul 2 (M (T v0 1) 1)) 1 then
  some M
  else
  if 0 < T v0 6 then
  if T (T v0 6) (-2) = 101 ∧ 0 ≤ v4 ∧ v4 < T (T v0 6) (-1) then
  if M (T v0 6) v4 = (-1) then
  er_le (er_up M (T v0 6) v4 v3) fun M8 =>
  some M8
  else
  some M else none else none else none else none
set_option maxHeartbeats 4000000 in
theorem w_Node_hearReady_41 {K : er_K} {l : Launch} {X : er_X} (cx : er_Cx K l X b_Node_hearReady "EchoedRounds$Node" 6 rm_Node_hearReady) {r : er_Me} {T : er_Me} (rt : er_Rt K X b_Node_hearReady (none) 0 0 none T r) : ∀ (v0 v1 v2 v3 v4 v5 : Int) (M : er_Me), f_Node_hearReady_41 T v0 v1 v2 v3 v4 v5 M = some r → er_G K 0 0 T M 41 [(0, .inr v0), (1, .inl v1), (2, .inl v2), (3, .inl v3), (4, .inl v4), (5, .inl v5)] [] := by
  intro v0 v1 v2 v3 v4 v5 M h
  unfold f_Node_hearReady_41 at h
  refine er_iload cx d_Node_hearReady_41 5 rfl ?_
  refine er_iconst (v := 2) cx d_Node_hearReady_43 rfl (by decide) ?_
  refine er_aload_n cx d_Node_hearReady_44 0 rfl ?_
  obtain ⟨c1, h⟩ := er_ck h
  refine er_getr cx d_Node_hearReady_45 fd_Node_62 c1.1 c1.2 ?_
  obtain ⟨c2, h⟩ := er_ck h
  refine er_geti cx d_Node_hearReady_48 fd_Node_110 c2 ?_
  refine er_imul cx d_Node_hearReady_51 ?_
  refine er_iconst (v := 1) cx d_Node_hearReady_52 rfl (by decide) ?_
  refine er_iadd cx d_Node_hearReady_53 ?_
  refine er_ic_lt (tgt := 76) cx d_Node_hearReady_54 (by decide) (fun b3 => ?_) (fun b3 => ?_)
  · have h := er_ift h b3
    obtain rfl := Option.some.inj h
    exact er_vret rt d_Node_hearReady_76 (by decide) (by decide) ⟨rfl, rfl, rfl⟩
  · have h := er_iff h b3
    refine er_aload_n cx d_Node_hearReady_57 0 rfl ?_
    obtain ⟨c4, h⟩ := er_ck h
    refine er_getr cx d_Node_hearReady_58 fd_Node_33 c1.1 c4 ?_
    refine er_iload cx d_Node_hearReady_61 4 rfl ?_
    obtain ⟨c5, h⟩ := er_ck h
    refine er_iald cx d_Node_hearReady_63 c5.1 c5.2.1 c5.2.2 ?_
    refine er_iconst (v := -1) cx d_Node_hearReady_64 rfl (by decide) ?_
    refine er_ic_ne (tgt := 76) cx d_Node_hearReady_65 (by decide) (fun b6 => ?_) (fun b6 => ?_)
    · have h := er_iff h b6
      obtain rfl := Option.some.inj h
      exact er_vret rt d_Node_hearReady_76 (by decide) (by decide) ⟨rfl, rfl, rfl⟩
    · have h := er_ift h b6
      refine er_aload_n cx d_Node_hearReady_68 0 rfl ?_
      refine er_getr cx d_Node_hearReady_69 fd_Node_33 c1.1 c4 ?_
      refine er_iload cx d_Node_hearReady_72 4 rfl ?_
      refine er_iload_n cx d_Node_hearReady_74 3 rfl ?_
      obtain ⟨M8, e8, h⟩ := er_lel h
      refine er_iast cx d_Node_hearReady_75 c5.1 c5.2.1 c5.2.2 e8 ?_
      obtain rfl := Option.some.inj h
      exact er_vret rt d_Node_hearReady_76 (by decide) (by decide) ⟨rfl, rfl, rfl⟩
def f_Node_hearReady (p0 p1 p2 p3 : Int) (T M : er_Me) : Option (er_Me) :=
  (f_ER_cellOf p1 p2 T M).bind fun q1 =>
  if T p0 (-2) = 3 ∧ 0 < T p0 3 then
  if T (T p0 3) (-2) = 5 then
  (f_Tally_count (T p0 3) 2 q1.1 p3 T q1.2).bind fun q3 =>
  if 0 < T p0 1 then
  if T (T p0 1) (-2) = 2 then
  if q3.1 < er_add (q3.2 (T p0 1) 1) 1 then
  f_Node_hearReady_41 T p0 p1 p2 p3 q1.1 q3.1 q3.2
  else
  (f_Node_sendReadyOnce p0 p1 p2 p3 T q3.2).bind fun q7 =>
  f_Node_hearReady_41 T p0 p1 p2 p3 q1.1 q3.1 q7 else none else none else none else none
set_option maxHeartbeats 4000000 in
theorem w_Node_hearReady {K : er_K} {l : Launch} {X : er_X} (cx : er_Cx K l X b_Node_hearReady "EchoedRounds$Node" 6 rm_Node_hearReady) {r : er_Me} {p0 p1 p2 p3 : Int} {T M : er_Me} (rt : er_Rt K X b_Node_hearReady (none) 0 0 none T r) (h : f_Node_hearReady p0 p1 p2 p3 T M = some r) : er_G K 0 0 T M 0 [(0, .inr p0), (1, .inl p1), (2, .inl p2), (3, .inl p3)] [] := by
  unfold f_Node_hearReady at h
  refine er_iload_n cx d_Node_hearReady_0 1 rfl ?_
  refine er_iload_n cx d_Node_hearReady_1 2 rfl ?_
  obtain ⟨q1, e1, h⟩ := er_bd h
  refine er_callS (As := [.inl p1, .inl p2]) (st := []) cx (c_ER_cellOf e1) my_Node_83 ⟨by decide, by decide⟩ rfl (Nat.le_of_ble_eq_true rfl) d_Node_hearReady_2 ⟨Nat.zero_le _, Nat.zero_le _⟩ rfl ?_
  refine er_istore cx d_Node_hearReady_5 (by decide) rfl ?_
  refine er_aload_n cx d_Node_hearReady_7 1 rfl ?_
  obtain ⟨c2, h⟩ := er_ck h
  refine er_getr cx d_Node_hearReady_8 fd_Node_21 c2.1 c2.2 ?_
  refine er_iconst (v := 2) cx d_Node_hearReady_11 rfl (by decide) ?_
  refine er_iload cx d_Node_hearReady_12 0 rfl ?_
  refine er_iload_n cx d_Node_hearReady_14 4 rfl ?_
  obtain ⟨c3, h⟩ := er_ck h
  obtain ⟨q3, e3, h⟩ := er_bd h
  refine er_callV (b := T p0 3) (As := [.inl 2, .inl q1.1, .inl p3]) (st := []) cx (c_Tally_count e3) my_Node_98 c3 ⟨by decide, by decide⟩ rfl (Nat.le_of_ble_eq_true rfl) d_Node_hearReady_15 ⟨Nat.zero_le _, Nat.zero_le _⟩ rfl ?_
  refine er_istore cx d_Node_hearReady_18 (by decide) rfl ?_
  refine er_iload cx d_Node_hearReady_20 0 rfl ?_
  refine er_aload_n cx d_Node_hearReady_22 2 rfl ?_
  obtain ⟨c4, h⟩ := er_ck h
  refine er_getr cx d_Node_hearReady_23 fd_Node_62 c2.1 c4 ?_
  obtain ⟨c5, h⟩ := er_ck h
  refine er_geti cx d_Node_hearReady_26 fd_Node_110 c5 ?_
  refine er_iconst (v := 1) cx d_Node_hearReady_29 rfl (by decide) ?_
  refine er_iadd cx d_Node_hearReady_30 ?_
  refine er_ic_lt (tgt := 41) cx d_Node_hearReady_31 (by decide) (fun b6 => ?_) (fun b6 => ?_)
  · have h := er_ift h b6
    refine er_sb cx [2, 3, 4, 5, 1, 0] rfl ?_
    exact w_Node_hearReady_41 cx rt _ _ _ _ _ _ _ h
  · have h := er_iff h b6
    refine er_aload_n cx d_Node_hearReady_34 2 rfl ?_
    refine er_iload_n cx d_Node_hearReady_35 3 rfl ?_
    refine er_iload_n cx d_Node_hearReady_36 4 rfl ?_
    refine er_iload_n cx d_Node_hearReady_37 5 rfl ?_
    obtain ⟨q7, e7, h⟩ := er_bd h
    refine er_callV (b := p0) (As := [.inl p1, .inl p2, .inl p3]) (st := []) cx (c_Node_sendReadyOnce e7) my_Node_107 c2.1 ⟨by decide, by decide⟩ rfl (Nat.le_of_ble_eq_true rfl) d_Node_hearReady_38 ⟨Nat.zero_le _, Nat.zero_le _⟩ rfl ?_
    refine er_sb cx [2, 3, 4, 5, 1, 0] rfl ?_
    exact w_Node_hearReady_41 cx rt _ _ _ _ _ _ _ h
theorem c_Node_hearReady {l : Launch} {X : er_X} {r : er_Me} {p0 p1 p2 p3 : Int} {T M : er_Me} (h : f_Node_hearReady p0 p1 p2 p3 T M = some r) (hok : ∀ v ∈ ([.inr p0, .inl p1, .inl p2, .inl p3] : List er_V), er_ok v) : er_Ct l X y_Node_hearReady b_Node_hearReady 6 (none) rm_Node_hearReady [.inr p0, .inl p1, .inl p2, .inl p3] T M none T r :=
  er_ct rfl rfl (Nat.le_of_ble_eq_true rfl) hok (fun K cx rt hin => w_Node_hearReady cx rt h)
/-! Node_endRound -/
abbrev rm_Node_endRound : Room := { frames := 2, cells := 0, slots := 0, locals := 47 }
def f_Node_endRound (p0 p1 p2 : Int) (T M : er_Me) : Option (Int × er_Me) :=
  if T p0 (-2) = 3 ∧ 0 < T p0 1 then
  if T (T p0 1) (-2) = 2 then
  (f_Rules_heldFirm (T p0 1) p2 (er_add (er_mul 2 (M (T p0 1) 1)) 1) T M).bind fun q4 =>
  if q4.1 = (-1) then
  (f_Rules_heldFirm (T p0 1) p2 (er_add (q4.2 (T p0 1) 1) 1) T q4.2).bind fun q9 =>
  if q9.1 = (-1) then
  some (er_and (er_shr (q9.2 p0 9) p1) 1, q9.2)
  else
  some (q9.1, q9.2)
  else
  if q4.2 p0 12 = (-1) then
  er_le (er_up q4.2 p0 12 q4.1) fun M17 =>
  some (q4.1, M17)
  else
  some (q4.1, q4.2) else none else none
set_option maxHeartbeats 4000000 in
theorem w_Node_endRound {K : er_K} {l : Launch} {X : er_X} (cx : er_Cx K l X b_Node_endRound "EchoedRounds$Node" 5 rm_Node_endRound) {r : Int × er_Me} {p0 p1 p2 : Int} {T M : er_Me} (rt : er_Rt K X b_Node_endRound (some .int) 0 0 (some (.inl r.1)) T r.2) (h : f_Node_endRound p0 p1 p2 T M = some r) : er_G K 0 0 T M 0 [(0, .inr p0), (1, .inl p1), (2, .inr p2)] [] := by
  unfold f_Node_endRound at h
  refine er_aload_n cx d_Node_endRound_0 0 rfl ?_
  obtain ⟨c1, h⟩ := er_ck h
  refine er_getr cx d_Node_endRound_1 fd_Node_62 c1.1 c1.2 ?_
  refine er_aload_n cx d_Node_endRound_4 2 rfl ?_
  refine er_iconst (v := 2) cx d_Node_endRound_5 rfl (by decide) ?_
  refine er_aload_n cx d_Node_endRound_6 0 rfl ?_
  refine er_getr cx d_Node_endRound_7 fd_Node_62 c1.1 c1.2 ?_
  obtain ⟨c3, h⟩ := er_ck h
  refine er_geti cx d_Node_endRound_10 fd_Node_110 c3 ?_
  refine er_imul cx d_Node_endRound_13 ?_
  refine er_iconst (v := 1) cx d_Node_endRound_14 rfl (by decide) ?_
  refine er_iadd cx d_Node_endRound_15 ?_
  obtain ⟨q4, e4, h⟩ := er_bd h
  refine er_callV (b := T p0 1) (As := [.inr p2, .inl (er_add (er_mul 2 (M (T p0 1) 1)) 1)]) (st := []) cx (c_Rules_heldFirm e4) my_Node_168 c3 ⟨by decide, by decide⟩ rfl (Nat.le_of_ble_eq_true rfl) d_Node_endRound_16 ⟨Nat.zero_le _, Nat.zero_le _⟩ rfl ?_
  refine er_istore_n cx d_Node_endRound_19 rfl (by decide) rfl ?_
  refine er_iload_n cx d_Node_endRound_20 0 rfl ?_
  refine er_iconst (v := -1) cx d_Node_endRound_21 rfl (by decide) ?_
  refine er_ic_eq (tgt := 40) cx d_Node_endRound_22 (by decide) (fun b5 => ?_) (fun b5 => ?_)
  · have h := er_ift h b5
    refine er_aload_n cx d_Node_endRound_40 1 rfl ?_
    refine er_getr cx d_Node_endRound_41 fd_Node_62 c1.1 c1.2 ?_
    refine er_aload_n cx d_Node_endRound_44 3 rfl ?_
    refine er_aload_n cx d_Node_endRound_45 1 rfl ?_
    refine er_getr cx d_Node_endRound_46 fd_Node_62 c1.1 c1.2 ?_
    refine er_geti cx d_Node_endRound_49 fd_Node_110 c3 ?_
    refine er_iconst (v := 1) cx d_Node_endRound_52 rfl (by decide) ?_
    refine er_iadd cx d_Node_endRound_53 ?_
    obtain ⟨q9, e9, h⟩ := er_bd h
    refine er_callV (b := T p0 1) (As := [.inr p2, .inl (er_add (q4.2 (T p0 1) 1) 1)]) (st := []) cx (c_Rules_heldFirm e9) my_Node_168 c3 ⟨by decide, by decide⟩ rfl (Nat.le_of_ble_eq_true rfl) d_Node_endRound_54 ⟨Nat.zero_le _, Nat.zero_le _⟩ rfl ?_
    refine er_istore cx d_Node_endRound_57 (by decide) rfl ?_
    refine er_iload cx d_Node_endRound_59 0 rfl ?_
    refine er_iconst (v := -1) cx d_Node_endRound_61 rfl (by decide) ?_
    refine er_ic_eq (tgt := 70) cx d_Node_endRound_62 (by decide) (fun b10 => ?_) (fun b10 => ?_)
    · have h := er_ift h b10
      refine er_aload_n cx d_Node_endRound_70 2 rfl ?_
      refine er_geti cx d_Node_endRound_71 fd_Node_46 c1.1 ?_
      refine er_iload_n cx d_Node_endRound_74 3 rfl ?_
      refine er_ishr cx d_Node_endRound_75 ?_
      refine er_iconst (v := 1) cx d_Node_endRound_76 rfl (by decide) ?_
      refine er_iand cx d_Node_endRound_77 ?_
      obtain rfl := Option.some.inj h
      exact er_iret rt (Or.inl rfl) d_Node_endRound_78 (by decide) (by decide) ⟨rfl, rfl, rfl⟩
    · have h := er_iff h b10
      refine er_iload cx d_Node_endRound_65 0 rfl ?_
      refine er_goto (tgt := 78) cx d_Node_endRound_67 (by decide) ?_
      obtain rfl := Option.some.inj h
      exact er_iret rt (Or.inl rfl) d_Node_endRound_78 (by decide) (by decide) ⟨rfl, rfl, rfl⟩
  · have h := er_iff h b5
    refine er_aload_n cx d_Node_endRound_25 1 rfl ?_
    refine er_geti cx d_Node_endRound_26 fd_Node_56 c1.1 ?_
    refine er_iconst (v := -1) cx d_Node_endRound_29 rfl (by decide) ?_
    refine er_ic_ne (tgt := 38) cx d_Node_endRound_30 (by decide) (fun b15 => ?_) (fun b15 => ?_)
    · have h := er_iff h b15
      refine er_iload_n cx d_Node_endRound_38 0 rfl ?_
      obtain rfl := Option.some.inj h
      exact er_iret rt (Or.inl rfl) d_Node_endRound_39 (by decide) (by decide) ⟨rfl, rfl, rfl⟩
    · have h := er_ift h b15
      refine er_aload_n cx d_Node_endRound_33 1 rfl ?_
      refine er_iload_n cx d_Node_endRound_34 0 rfl ?_
      obtain ⟨M17, e17, h⟩ := er_lel h
      refine er_puti cx d_Node_endRound_35 fd_Node_56 c1.1 (fun q => by cases q) e17 ?_
      refine er_iload_n cx d_Node_endRound_38 0 rfl ?_
      obtain rfl := Option.some.inj h
      exact er_iret rt (Or.inl rfl) d_Node_endRound_39 (by decide) (by decide) ⟨rfl, rfl, rfl⟩
theorem c_Node_endRound {l : Launch} {X : er_X} {r : Int × er_Me} {p0 p1 p2 : Int} {T M : er_Me} (h : f_Node_endRound p0 p1 p2 T M = some r) (hok : ∀ v ∈ ([.inr p0, .inl p1, .inr p2] : List er_V), er_ok v) : er_Ct l X y_Node_endRound b_Node_endRound 5 (some .int) rm_Node_endRound [.inr p0, .inl p1, .inr p2] T M (some (.inl r.1)) T r.2 :=
  er_ct rfl rfl (Nat.le_of_ble_eq_true rfl) hok (fun K cx rt hin => w_Node_endRound cx rt h)
/-! Node_hear -/
abbrev rm_Node_hear : Room := { frames := 3, cells := 0, slots := 0, locals := 72 }
def f_Node_hear_43 (T : er_Me) (v0 v1 v2 v3 v4 v5 v6 : Int) (M : er_Me) : Option (Int × er_Me) :=
  if T v0 (-2) = 3 ∧ 0 < T v0 3 then
  (f_ER_cellOf v3 v4 T M).bind fun q2 =>
  if T (T v0 3) (-2) = 5 then
  (f_Tally_countIn (T v0 3) v1 v5 q2.1 v6 T q2.2).bind fun q3 =>
  if q3.1 = 0 then
  some (0, q3.2)
  else
  if v5 = 0 then
  if 0 < T v0 2 then
  (f_ER_codeOf 1 v3 v4 v6 T q3.2).bind fun q12 =>
  if T (T v0 2) (-2) = 4 then
  (f_Log_append (T v0 2) q12.1 T q12.2).bind fun q13 =>
  some (1, q13) else none else none
  else
  if v5 = 1 then
  (f_Node_hearEcho v0 v3 v4 v6 T q3.2).bind fun q9 =>
  some (1, q9)
  else
  (f_Node_hearReady v0 v3 v4 v6 T q3.2).bind fun q7 =>
  some (1, q7) else none else none
set_option maxHeartbeats 4000000 in
theorem w_Node_hear_43 {K : er_K} {l : Launch} {X : er_X} (cx : er_Cx K l X b_Node_hear "EchoedRounds$Node" 7 rm_Node_hear) {r : Int × er_Me} {T : er_Me} (rt : er_Rt K X b_Node_hear (some .boolean) 0 0 (some (.inl r.1)) T r.2) : ∀ (v0 v1 v2 v3 v4 v5 v6 : Int) (M : er_Me), f_Node_hear_43 T v0 v1 v2 v3 v4 v5 v6 M = some r → er_G K 0 0 T M 43 [(0, .inr v0), (1, .inl v1), (2, .inl v2), (3, .inl v3), (4, .inl v4), (5, .inl v5), (6, .inl v6)] [] := by
  intro v0 v1 v2 v3 v4 v5 v6 M h
  unfold f_Node_hear_43 at h
  refine er_aload_n cx d_Node_hear_43 0 rfl ?_
  obtain ⟨c1, h⟩ := er_ck h
  refine er_getr cx d_Node_hear_44 fd_Node_21 c1.1 c1.2 ?_
  refine er_iload_n cx d_Node_hear_47 1 rfl ?_
  refine er_iload cx d_Node_hear_48 5 rfl ?_
  refine er_iload_n cx d_Node_hear_50 3 rfl ?_
  refine er_iload cx d_Node_hear_51 4 rfl ?_
  obtain ⟨q2, e2, h⟩ := er_bd h
  refine er_callS (As := [.inl v3, .inl v4]) (st := [.inl v5, .inl v1, .inr (T v0 3)]) cx (c_ER_cellOf e2) my_Node_83 ⟨by decide, by decide⟩ rfl (Nat.le_of_ble_eq_true rfl) d_Node_hear_53 ⟨Nat.zero_le _, Nat.zero_le _⟩ rfl ?_
  refine er_iload cx d_Node_hear_56 6 rfl ?_
  obtain ⟨c3, h⟩ := er_ck h
  obtain ⟨q3, e3, h⟩ := er_bd h
  refine er_callV (b := T v0 3) (As := [.inl v1, .inl v5, .inl q2.1, .inl v6]) (st := []) cx (c_Tally_countIn e3) my_Node_87 c3 ⟨by decide, by decide⟩ rfl (Nat.le_of_ble_eq_true rfl) d_Node_hear_58 ⟨Nat.zero_le _, Nat.zero_le _⟩ rfl ?_
  refine er_if_ne (tgt := 66) cx d_Node_hear_61 (by decide) (fun b4 => ?_) (fun b4 => ?_)
  · have h := er_iff h b4
    refine er_iload cx d_Node_hear_66 5 rfl ?_
    refine er_if_ne (tgt := 90) cx d_Node_hear_68 (by decide) (fun b5 => ?_) (fun b5 => ?_)
    · have h := er_iff h b5
      refine er_iload cx d_Node_hear_90 5 rfl ?_
      refine er_iconst (v := 1) cx d_Node_hear_92 rfl (by decide) ?_
      refine er_ic_ne (tgt := 108) cx d_Node_hear_93 (by decide) (fun b6 => ?_) (fun b6 => ?_)
      · have h := er_iff h b6
        refine er_aload_n cx d_Node_hear_108 0 rfl ?_
        refine er_iload_n cx d_Node_hear_109 3 rfl ?_
        refine er_iload cx d_Node_hear_110 4 rfl ?_
        refine er_iload cx d_Node_hear_112 6 rfl ?_
        obtain ⟨q7, e7, h⟩ := er_bd h
        refine er_callV (b := v0) (As := [.inl v3, .inl v4, .inl v6]) (st := []) cx (c_Node_hearReady e7) my_Node_95 c1.1 ⟨by decide, by decide⟩ rfl (Nat.le_of_ble_eq_true rfl) d_Node_hear_114 ⟨Nat.zero_le _, Nat.zero_le _⟩ rfl ?_
        refine er_iconst (v := 1) cx d_Node_hear_117 rfl (by decide) ?_
        obtain rfl := Option.some.inj h
        exact er_iret rt (Or.inr ⟨rfl, Or.inr rfl⟩) d_Node_hear_118 (by decide) (by decide) ⟨rfl, rfl, rfl⟩
      · have h := er_ift h b6
        refine er_aload_n cx d_Node_hear_96 0 rfl ?_
        refine er_iload_n cx d_Node_hear_97 3 rfl ?_
        refine er_iload cx d_Node_hear_98 4 rfl ?_
        refine er_iload cx d_Node_hear_100 6 rfl ?_
        obtain ⟨q9, e9, h⟩ := er_bd h
        refine er_callV (b := v0) (As := [.inl v3, .inl v4, .inl v6]) (st := []) cx (c_Node_hearEcho e9) my_Node_91 c1.1 ⟨by decide, by decide⟩ rfl (Nat.le_of_ble_eq_true rfl) d_Node_hear_102 ⟨Nat.zero_le _, Nat.zero_le _⟩ rfl ?_
        refine er_goto (tgt := 117) cx d_Node_hear_105 (by decide) ?_
        refine er_iconst (v := 1) cx d_Node_hear_117 rfl (by decide) ?_
        obtain rfl := Option.some.inj h
        exact er_iret rt (Or.inr ⟨rfl, Or.inr rfl⟩) d_Node_hear_118 (by decide) (by decide) ⟨rfl, rfl, rfl⟩
    · have h := er_ift h b5
      refine er_aload_n cx d_Node_hear_71 0 rfl ?_
      obtain ⟨c11, h⟩ := er_ck h
      refine er_getr cx d_Node_hear_72 fd_Node_12 c1.1 c11 ?_
      refine er_iconst (v := 1) cx d_Node_hear_75 rfl (by decide) ?_
      refine er_iload_n cx d_Node_hear_76 3 rfl ?_
      refine er_iload cx d_Node_hear_77 4 rfl ?_
      refine er_iload cx d_Node_hear_79 6 rfl ?_
      obtain ⟨q12, e12, h⟩ := er_bd h
      refine er_callS (As := [.inl 1, .inl v3, .inl v4, .inl v6]) (st := [.inr (T v0 2)]) cx (c_ER_codeOf e12) my_Node_67 ⟨by decide, by decide⟩ rfl (Nat.le_of_ble_eq_true rfl) d_Node_hear_81 ⟨Nat.zero_le _, Nat.zero_le _⟩ rfl ?_
      obtain ⟨c13, h⟩ := er_ck h
      obtain ⟨q13, e13, h⟩ := er_bd h
      refine er_callV (b := T v0 2) (As := [.inl q12.1]) (st := []) cx (c_Log_append e13) my_Node_71 c13 ⟨by decide, by decide⟩ rfl (Nat.le_of_ble_eq_true rfl) d_Node_hear_84 ⟨Nat.zero_le _, Nat.zero_le _⟩ rfl ?_
      refine er_goto (tgt := 117) cx d_Node_hear_87 (by decide) ?_
      refine er_iconst (v := 1) cx d_Node_hear_117 rfl (by decide) ?_
      obtain rfl := Option.some.inj h
      exact er_iret rt (Or.inr ⟨rfl, Or.inr rfl⟩) d_Node_hear_118 (by decide) (by decide) ⟨rfl, rfl, rfl⟩
  · have h := er_ift h b4
    refine er_iconst (v := 0) cx d_Node_hear_64 rfl (by decide) ?_
    obtain rfl := Option.some.inj h
    exact er_iret rt (Or.inr ⟨rfl, Or.inl rfl⟩) d_Node_hear_65 (by decide) (by decide) ⟨rfl, rfl, rfl⟩
def f_Node_hear (p0 p1 p2 : Int) (T M : er_Me) : Option (Int × er_Me) :=
  er_le (er_div p2 1000) fun x1 =>
  er_le (er_rem (er_div p2 100) 10) fun x2 =>
  er_le (er_rem (er_div p2 10) 10) fun x3 =>
  if x3 = 0 then
  if x2 = p1 then
  f_Node_hear_43 T p0 p1 p2 x1 x2 x3 (er_rem p2 10) M
  else
  some (0, M)
  else
  f_Node_hear_43 T p0 p1 p2 x1 x2 x3 (er_rem p2 10) M
set_option maxHeartbeats 4000000 in
theorem w_Node_hear {K : er_K} {l : Launch} {X : er_X} (cx : er_Cx K l X b_Node_hear "EchoedRounds$Node" 7 rm_Node_hear) {r : Int × er_Me} {p0 p1 p2 : Int} {T M : er_Me} (rt : er_Rt K X b_Node_hear (some .boolean) 0 0 (some (.inl r.1)) T r.2) (h : f_Node_hear p0 p1 p2 T M = some r) : er_G K 0 0 T M 0 [(0, .inr p0), (1, .inl p1), (2, .inl p2)] [] := by
  unfold f_Node_hear at h
  refine er_iload_n cx d_Node_hear_0 2 rfl ?_
  refine er_sipush (v := 1000) cx d_Node_hear_1 (by decide +kernel) (by decide) ?_
  refine er_idiv cx d_Node_hear_4 (by decide) ?_
  obtain ⟨x1, e1, h⟩ := er_lel h
  refine er_nm e1 ?_
  refine er_istore_n cx d_Node_hear_5 rfl (by decide) rfl ?_
  refine er_iload_n cx d_Node_hear_6 3 rfl ?_
  refine er_bipush (v := 100) cx d_Node_hear_7 (by decide +kernel) (by decide) ?_
  refine er_idiv cx d_Node_hear_9 (by decide) ?_
  refine er_bipush (v := 10) cx d_Node_hear_10 (by decide +kernel) (by decide) ?_
  refine er_irem cx d_Node_hear_12 (by decide) ?_
  obtain ⟨x2, e2, h⟩ := er_lel h
  refine er_nm e2 ?_
  refine er_istore cx d_Node_hear_13 (by decide) rfl ?_
  refine er_iload_n cx d_Node_hear_15 4 rfl ?_
  refine er_bipush (v := 10) cx d_Node_hear_16 (by decide +kernel) (by decide) ?_
  refine er_idiv cx d_Node_hear_18 (by decide) ?_
  refine er_bipush (v := 10) cx d_Node_hear_19 (by decide +kernel) (by decide) ?_
  refine er_irem cx d_Node_hear_21 (by decide) ?_
  obtain ⟨x3, e3, h⟩ := er_lel h
  refine er_nm e3 ?_
  refine er_istore cx d_Node_hear_22 (by decide) rfl ?_
  refine er_iload_n cx d_Node_hear_24 5 rfl ?_
  refine er_bipush (v := 10) cx d_Node_hear_25 (by decide +kernel) (by decide) ?_
  refine er_irem cx d_Node_hear_27 (by decide) ?_
  refine er_istore cx d_Node_hear_28 (by decide) rfl ?_
  refine er_iload cx d_Node_hear_30 1 rfl ?_
  refine er_if_ne (tgt := 43) cx d_Node_hear_32 (by decide) (fun b4 => ?_) (fun b4 => ?_)
  · have h := er_iff h b4
    refine er_sb cx [4, 5, 6, 3, 2, 1, 0] rfl ?_
    exact w_Node_hear_43 cx rt _ _ _ _ _ _ _ _ h
  · have h := er_ift h b4
    refine er_iload cx d_Node_hear_35 2 rfl ?_
    refine er_iload_n cx d_Node_hear_37 5 rfl ?_
    refine er_ic_eq (tgt := 43) cx d_Node_hear_38 (by decide) (fun b5 => ?_) (fun b5 => ?_)
    · have h := er_ift h b5
      refine er_sb cx [4, 5, 6, 3, 2, 1, 0] rfl ?_
      exact w_Node_hear_43 cx rt _ _ _ _ _ _ _ _ h
    · have h := er_iff h b5
      refine er_iconst (v := 0) cx d_Node_hear_41 rfl (by decide) ?_
      obtain rfl := Option.some.inj h
      exact er_iret rt (Or.inr ⟨rfl, Or.inl rfl⟩) d_Node_hear_42 (by decide) (by decide) ⟨rfl, rfl, rfl⟩
theorem c_Node_hear {l : Launch} {X : er_X} {r : Int × er_Me} {p0 p1 p2 : Int} {T M : er_Me} (h : f_Node_hear p0 p1 p2 T M = some r) (hok : ∀ v ∈ ([.inr p0, .inl p1, .inl p2] : List er_V), er_ok v) : er_Ct l X y_Node_hear b_Node_hear 7 (some .boolean) rm_Node_hear [.inr p0, .inl p1, .inl p2] T M (some (.inl r.1)) T r.2 :=
  er_ct rfl rfl (Nat.le_of_ble_eq_true rfl) hok (fun K cx rt hin => w_Node_hear cx rt h)
/-! Node_canBecomeValid -/
abbrev rm_Node_canBecomeValid : Room := { frames := 4, cells := 0, slots := 0, locals := 91 }
def f_Node_canBecomeValid (p0 p1 p2 : Int) (T M : er_Me) : Option (Int × er_Me) :=
  if T p0 (-2) = 3 ∧ 0 < T p0 6 then
  (f_ER_cellOf p1 p2 T M).bind fun q2 =>
  if T (T p0 6) (-2) = 101 ∧ 0 ≤ q2.1 ∧ q2.1 < T (T p0 6) (-1) then
  er_le (q2.2 (T p0 6) q2.1) fun x4 =>
  if x4 = (-1) then
  some (0, q2.2)
  else
  if 0 < T p0 7 then
  if T (T p0 7) (-2) = 104 ∧ 0 ≤ p1 ∧ p1 < T (T p0 7) (-1) ∧ 0 < T (T p0 7) p1 then
  if T (T (T p0 7) p1) (-2) = 6 then
  (f_Row_holds (T (T p0 7) p1) p2 T q2.2).bind fun q9 =>
  if q9.1 = 0 then
  if p1 = 0 then
  (f_ER_isPlain x4 T q9.2).bind fun q17 =>
  if q17.1 = 0 ∨ q17.1 = 1 then some (q17.1, q17.2) else none
  else
  if 0 < T p0 1 then
  if 0 ≤ er_sub p1 1 ∧ er_sub p1 1 < T (T p0 7) (-1) ∧ 0 < T (T p0 7) (er_sub p1 1) then
  if T (T p0 1) (-2) = 2 then
  (f_Rules_follows (T p0 1) p1 p2 x4 (T (T p0 7) (er_sub p1 1)) T q9.2).bind fun q15 =>
  if q15.1 = 0 ∨ q15.1 = 1 then some (q15.1, q15.2) else none else none else none else none
  else
  some (0, q9.2) else none else none else none else none else none
set_option maxHeartbeats 4000000 in
theorem w_Node_canBecomeValid {K : er_K} {l : Launch} {X : er_X} (cx : er_Cx K l X b_Node_canBecomeValid "EchoedRounds$Node" 4 rm_Node_canBecomeValid) {r : Int × er_Me} {p0 p1 p2 : Int} {T M : er_Me} (rt : er_Rt K X b_Node_canBecomeValid (some .boolean) 0 0 (some (.inl r.1)) T r.2) (h : f_Node_canBecomeValid p0 p1 p2 T M = some r) : er_G K 0 0 T M 0 [(0, .inr p0), (1, .inl p1), (2, .inl p2)] [] := by
  unfold f_Node_canBecomeValid at h
  refine er_aload_n cx d_Node_canBecomeValid_0 0 rfl ?_
  obtain ⟨c1, h⟩ := er_ck h
  refine er_getr cx d_Node_canBecomeValid_1 fd_Node_33 c1.1 c1.2 ?_
  refine er_iload_n cx d_Node_canBecomeValid_4 1 rfl ?_
  refine er_iload_n cx d_Node_canBecomeValid_5 2 rfl ?_
  obtain ⟨q2, e2, h⟩ := er_bd h
  refine er_callS (As := [.inl p1, .inl p2]) (st := [.inr (T p0 6)]) cx (c_ER_cellOf e2) my_Node_83 ⟨by decide, by decide⟩ rfl (Nat.le_of_ble_eq_true rfl) d_Node_canBecomeValid_6 ⟨Nat.zero_le _, Nat.zero_le _⟩ rfl ?_
  obtain ⟨c3, h⟩ := er_ck h
  refine er_iald cx d_Node_canBecomeValid_9 c3.1 c3.2.1 c3.2.2 ?_
  obtain ⟨x4, e4, h⟩ := er_lel h
  refine er_nm e4 ?_
  refine er_istore_n cx d_Node_canBecomeValid_10 rfl (by decide) rfl ?_
  refine er_iload_n cx d_Node_canBecomeValid_11 0 rfl ?_
  refine er_iconst (v := -1) cx d_Node_canBecomeValid_12 rfl (by decide) ?_
  refine er_ic_eq (tgt := 29) cx d_Node_canBecomeValid_13 (by decide) (fun b5 => ?_) (fun b5 => ?_)
  · have h := er_ift h b5
    refine er_iconst (v := 0) cx d_Node_canBecomeValid_29 rfl (by decide) ?_
    obtain rfl := Option.some.inj h
    exact er_iret rt (Or.inr ⟨rfl, Or.inl rfl⟩) d_Node_canBecomeValid_30 (by decide) (by decide) ⟨rfl, rfl, rfl⟩
  · have h := er_iff h b5
    refine er_aload_n cx d_Node_canBecomeValid_16 1 rfl ?_
    obtain ⟨c7, h⟩ := er_ck h
    refine er_getr cx d_Node_canBecomeValid_17 fd_Node_38 c1.1 c7 ?_
    refine er_iload_n cx d_Node_canBecomeValid_20 2 rfl ?_
    obtain ⟨c8, h⟩ := er_ck h
    refine er_aald cx d_Node_canBecomeValid_21 c8.1 (by decide) c8.2.1 c8.2.2.1 c8.2.2.2 ?_
    refine er_iload_n cx d_Node_canBecomeValid_22 3 rfl ?_
    obtain ⟨c9, h⟩ := er_ck h
    obtain ⟨q9, e9, h⟩ := er_bd h
    refine er_callV (b := T (T p0 7) p1) (As := [.inl p2]) (st := []) cx (c_Row_holds e9) my_Node_132 c9 ⟨by decide, by decide⟩ rfl (Nat.le_of_ble_eq_true rfl) d_Node_canBecomeValid_23 ⟨Nat.zero_le _, Nat.zero_le _⟩ rfl ?_
    refine er_if_eq (tgt := 31) cx d_Node_canBecomeValid_26 (by decide) (fun b10 => ?_) (fun b10 => ?_)
    · have h := er_ift h b10
      refine er_iload_n cx d_Node_canBecomeValid_31 2 rfl ?_
      refine er_if_ne (tgt := 42) cx d_Node_canBecomeValid_32 (by decide) (fun b11 => ?_) (fun b11 => ?_)
      · have h := er_iff h b11
        refine er_aload_n cx d_Node_canBecomeValid_42 1 rfl ?_
        obtain ⟨c12, h⟩ := er_ck h
        refine er_getr cx d_Node_canBecomeValid_43 fd_Node_62 c1.1 c12 ?_
        refine er_iload_n cx d_Node_canBecomeValid_46 2 rfl ?_
        refine er_iload_n cx d_Node_canBecomeValid_47 3 rfl ?_
        refine er_iload_n cx d_Node_canBecomeValid_48 0 rfl ?_
        refine er_aload_n cx d_Node_canBecomeValid_49 1 rfl ?_
        refine er_getr cx d_Node_canBecomeValid_50 fd_Node_38 c1.1 c7 ?_
        refine er_iload_n cx d_Node_canBecomeValid_53 2 rfl ?_
        refine er_iconst (v := 1) cx d_Node_canBecomeValid_54 rfl (by decide) ?_
        refine er_isub cx d_Node_canBecomeValid_55 ?_
        obtain ⟨c14, h⟩ := er_ck h
        refine er_aald cx d_Node_canBecomeValid_56 c8.1 (by decide) c14.1 c14.2.1 c14.2.2 ?_
        obtain ⟨c15, h⟩ := er_ck h
        obtain ⟨q15, e15, h⟩ := er_bd h
        refine er_callV (b := T p0 1) (As := [.inl p1, .inl p2, .inl x4, .inr (T (T p0 7) (er_sub p1 1))]) (st := []) cx (c_Rules_follows e15) my_Node_139 c15 ⟨by decide, by decide⟩ rfl (Nat.le_of_ble_eq_true rfl) d_Node_canBecomeValid_57 ⟨Nat.zero_le _, Nat.zero_le _⟩ rfl ?_
        obtain ⟨c16, h⟩ := er_ck h
        obtain rfl := Option.some.inj h
        exact er_iret rt (Or.inr ⟨rfl, c16⟩) d_Node_canBecomeValid_60 (by decide) (by decide) ⟨rfl, rfl, rfl⟩
      · have h := er_ift h b11
        refine er_iload_n cx d_Node_canBecomeValid_35 0 rfl ?_
        obtain ⟨q17, e17, h⟩ := er_bd h
        refine er_callS (As := [.inl x4]) (st := []) cx (c_ER_isPlain e17) my_Node_136 ⟨by decide, by decide⟩ rfl (Nat.le_of_ble_eq_true rfl) d_Node_canBecomeValid_36 ⟨Nat.zero_le _, Nat.zero_le _⟩ rfl ?_
        refine er_goto (tgt := 60) cx d_Node_canBecomeValid_39 (by decide) ?_
        obtain ⟨c18, h⟩ := er_ck h
        obtain rfl := Option.some.inj h
        exact er_iret rt (Or.inr ⟨rfl, c18⟩) d_Node_canBecomeValid_60 (by decide) (by decide) ⟨rfl, rfl, rfl⟩
    · have h := er_iff h b10
      refine er_iconst (v := 0) cx d_Node_canBecomeValid_29 rfl (by decide) ?_
      obtain rfl := Option.some.inj h
      exact er_iret rt (Or.inr ⟨rfl, Or.inl rfl⟩) d_Node_canBecomeValid_30 (by decide) (by decide) ⟨rfl, rfl, rfl⟩
theorem c_Node_canBecomeValid {l : Launch} {X : er_X} {r : Int × er_Me} {p0 p1 p2 : Int} {T M : er_Me} (h : f_Node_canBecomeValid p0 p1 p2 T M = some r) (hok : ∀ v ∈ ([.inr p0, .inl p1, .inl p2] : List er_V), er_ok v) : er_Ct l X y_Node_canBecomeValid b_Node_canBecomeValid 4 (some .boolean) rm_Node_canBecomeValid [.inr p0, .inl p1, .inl p2] T M (some (.inl r.1)) T r.2 :=
  er_ct rfl rfl (Nat.le_of_ble_eq_true rfl) hok (fun K cx rt hin => w_Node_canBecomeValid cx rt h)
/-! Node_valueAfter -/
abbrev rm_Node_valueAfter : Room := { frames := 3, cells := 0, slots := 0, locals := 71 }
def f_Node_valueAfter (p0 p1 : Int) (T M : er_Me) : Option (Int × er_Me) :=
  if T p0 (-2) = 3 ∧ 0 < T p0 7 then
  if T (T p0 7) (-2) = 104 ∧ 0 ≤ p1 ∧ p1 < T (T p0 7) (-1) ∧ 0 < T (T p0 7) p1 then
  if er_rem p1 3 = 0 then
  if 0 < T p0 1 then
  if T (T p0 1) (-2) = 2 then
  (f_Rules_prevailing (T p0 1) (T (T p0 7) p1) T M).bind fun q12 =>
  some (q12.1, q12.2) else none else none
  else
  if er_rem p1 3 = 1 then
  if 0 < T p0 1 then
  if T (T p0 1) (-2) = 2 then
  (f_Rules_firmOr (T p0 1) (T (T p0 7) p1) (M p0 11) T M).bind fun q9 =>
  some (q9.1, q9.2) else none else none
  else
  (f_Node_endRound p0 (er_div p1 3) (T (T p0 7) p1) T M).bind fun q5 =>
  some (q5.1, q5.2) else none else none
set_option maxHeartbeats 4000000 in
theorem w_Node_valueAfter {K : er_K} {l : Launch} {X : er_X} (cx : er_Cx K l X b_Node_valueAfter "EchoedRounds$Node" 4 rm_Node_valueAfter) {r : Int × er_Me} {p0 p1 : Int} {T M : er_Me} (rt : er_Rt K X b_Node_valueAfter (some .int) 0 0 (some (.inl r.1)) T r.2) (h : f_Node_valueAfter p0 p1 T M = some r) : er_G K 0 0 T M 0 [(0, .inr p0), (1, .inl p1)] [] := by
  unfold f_Node_valueAfter at h
  refine er_aload_n cx d_Node_valueAfter_0 0 rfl ?_
  obtain ⟨c1, h⟩ := er_ck h
  refine er_getr cx d_Node_valueAfter_1 fd_Node_38 c1.1 c1.2 ?_
  refine er_iload_n cx d_Node_valueAfter_4 1 rfl ?_
  obtain ⟨c2, h⟩ := er_ck h
  refine er_aald cx d_Node_valueAfter_5 c2.1 (by decide) c2.2.1 c2.2.2.1 c2.2.2.2 ?_
  refine er_astore_n cx d_Node_valueAfter_6 rfl (by decide) rfl ?_
  refine er_iload_n cx d_Node_valueAfter_7 2 rfl ?_
  refine er_iconst (v := 3) cx d_Node_valueAfter_8 rfl (by decide) ?_
  refine er_irem cx d_Node_valueAfter_9 (by decide) ?_
  refine er_istore_n cx d_Node_valueAfter_10 rfl (by decide) rfl ?_
  refine er_iload_n cx d_Node_valueAfter_11 0 rfl ?_
  refine er_if_ne (tgt := 24) cx d_Node_valueAfter_12 (by decide) (fun b3 => ?_) (fun b3 => ?_)
  · have h := er_iff h b3
    refine er_iload_n cx d_Node_valueAfter_24 0 rfl ?_
    refine er_iconst (v := 1) cx d_Node_valueAfter_25 rfl (by decide) ?_
    refine er_ic_ne (tgt := 44) cx d_Node_valueAfter_26 (by decide) (fun b4 => ?_) (fun b4 => ?_)
    · have h := er_iff h b4
      refine er_aload_n cx d_Node_valueAfter_44 2 rfl ?_
      refine er_iload_n cx d_Node_valueAfter_45 3 rfl ?_
      refine er_iconst (v := 3) cx d_Node_valueAfter_46 rfl (by decide) ?_
      refine er_idiv cx d_Node_valueAfter_47 (by decide) ?_
      refine er_aload_n cx d_Node_valueAfter_48 1 rfl ?_
      obtain ⟨q5, e5, h⟩ := er_bd h
      refine er_callV (b := p0) (As := [.inl (er_div p1 3), .inr (T (T p0 7) p1)]) (st := []) cx (c_Node_endRound e5) my_Node_164 c1.1 ⟨by decide, by decide⟩ rfl (Nat.le_of_ble_eq_true rfl) d_Node_valueAfter_49 ⟨Nat.zero_le _, Nat.zero_le _⟩ rfl ?_
      obtain rfl := Option.some.inj h
      exact er_iret rt (Or.inl rfl) d_Node_valueAfter_52 (by decide) (by decide) ⟨rfl, rfl, rfl⟩
    · have h := er_ift h b4
      refine er_aload_n cx d_Node_valueAfter_29 2 rfl ?_
      obtain ⟨c7, h⟩ := er_ck h
      refine er_getr cx d_Node_valueAfter_30 fd_Node_62 c1.1 c7 ?_
      refine er_aload_n cx d_Node_valueAfter_33 1 rfl ?_
      refine er_aload_n cx d_Node_valueAfter_34 2 rfl ?_
      refine er_geti cx d_Node_valueAfter_35 fd_Node_53 c1.1 ?_
      obtain ⟨c9, h⟩ := er_ck h
      obtain ⟨q9, e9, h⟩ := er_bd h
      refine er_callV (b := T p0 1) (As := [.inr (T (T p0 7) p1), .inl (M p0 11)]) (st := []) cx (c_Rules_firmOr e9) my_Node_160 c9 ⟨by decide, by decide⟩ rfl (Nat.le_of_ble_eq_true rfl) d_Node_valueAfter_38 ⟨Nat.zero_le _, Nat.zero_le _⟩ rfl ?_
      refine er_goto (tgt := 52) cx d_Node_valueAfter_41 (by decide) ?_
      obtain rfl := Option.some.inj h
      exact er_iret rt (Or.inl rfl) d_Node_valueAfter_52 (by decide) (by decide) ⟨rfl, rfl, rfl⟩
  · have h := er_ift h b3
    refine er_aload_n cx d_Node_valueAfter_15 2 rfl ?_
    obtain ⟨c11, h⟩ := er_ck h
    refine er_getr cx d_Node_valueAfter_16 fd_Node_62 c1.1 c11 ?_
    refine er_aload_n cx d_Node_valueAfter_19 1 rfl ?_
    obtain ⟨c12, h⟩ := er_ck h
    obtain ⟨q12, e12, h⟩ := er_bd h
    refine er_callV (b := T p0 1) (As := [.inr (T (T p0 7) p1)]) (st := []) cx (c_Rules_prevailing e12) my_Node_156 c12 ⟨by decide, by decide⟩ rfl (Nat.le_of_ble_eq_true rfl) d_Node_valueAfter_20 ⟨Nat.zero_le _, Nat.zero_le _⟩ rfl ?_
    obtain rfl := Option.some.inj h
    exact er_iret rt (Or.inl rfl) d_Node_valueAfter_23 (by decide) (by decide) ⟨rfl, rfl, rfl⟩
theorem c_Node_valueAfter {l : Launch} {X : er_X} {r : Int × er_Me} {p0 p1 : Int} {T M : er_Me} (h : f_Node_valueAfter p0 p1 T M = some r) (hok : ∀ v ∈ ([.inr p0, .inl p1] : List er_V), er_ok v) : er_Ct l X y_Node_valueAfter b_Node_valueAfter 4 (some .int) rm_Node_valueAfter [.inr p0, .inl p1] T M (some (.inl r.1)) T r.2 :=
  er_ct rfl rfl (Nat.le_of_ble_eq_true rfl) hok (fun K cx rt hin => w_Node_valueAfter cx rt h)
/-! Node_hearNextOf -/
abbrev rm_Node_hearNextOf : Room := { frames := 4, cells := 0, slots := 0, locals := 98 }
def f_Node_hearNextOf (p0 p1 p2 : Int) (T M : er_Me) : Option (Int × er_Me) :=
  if T p0 (-2) = 3 ∧ 0 < T p0 4 then
  if T (T p0 4) (-2) = 101 ∧ 0 ≤ p1 ∧ p1 < T (T p0 4) (-1) then
  if T p2 (-2) = 4 then
  (f_Log_codeAt p2 (M (T p0 4) p1) T M).bind fun q3 =>
  if q3.1 = (-1) then
  some (0, q3.2)
  else
  er_le (er_up q3.2 (T p0 4) p1 (er_add (q3.2 (T p0 4) p1) 1)) fun M7 =>
  (f_Node_hear p0 p1 q3.1 T M7).bind fun q8 =>
  some (1, q8.2) else none else none else none
set_option maxHeartbeats 4000000 in
theorem w_Node_hearNextOf {K : er_K} {l : Launch} {X : er_X} (cx : er_Cx K l X b_Node_hearNextOf "EchoedRounds$Node" 4 rm_Node_hearNextOf) {r : Int × er_Me} {p0 p1 p2 : Int} {T M : er_Me} (rt : er_Rt K X b_Node_hearNextOf (some .boolean) 0 0 (some (.inl r.1)) T r.2) (h : f_Node_hearNextOf p0 p1 p2 T M = some r) : er_G K 0 0 T M 0 [(0, .inr p0), (1, .inl p1), (2, .inr p2)] [] := by
  unfold f_Node_hearNextOf at h
  refine er_aload_n cx d_Node_hearNextOf_0 2 rfl ?_
  refine er_aload_n cx d_Node_hearNextOf_1 0 rfl ?_
  obtain ⟨c1, h⟩ := er_ck h
  refine er_getr cx d_Node_hearNextOf_2 fd_Node_25 c1.1 c1.2 ?_
  refine er_iload_n cx d_Node_hearNextOf_5 1 rfl ?_
  obtain ⟨c2, h⟩ := er_ck h
  refine er_iald cx d_Node_hearNextOf_6 c2.1 c2.2.1 c2.2.2 ?_
  obtain ⟨c3, h⟩ := er_ck h
  obtain ⟨q3, e3, h⟩ := er_bd h
  refine er_callV (b := p2) (As := [.inl (M (T p0 4) p1)]) (st := []) cx (c_Log_codeAt e3) my_Node_75 c3 ⟨by decide, by decide⟩ rfl (Nat.le_of_ble_eq_true rfl) d_Node_hearNextOf_7 ⟨Nat.zero_le _, Nat.zero_le _⟩ rfl ?_
  refine er_istore_n cx d_Node_hearNextOf_10 rfl (by decide) rfl ?_
  refine er_iload_n cx d_Node_hearNextOf_11 0 rfl ?_
  refine er_iconst (v := -1) cx d_Node_hearNextOf_12 rfl (by decide) ?_
  refine er_ic_ne (tgt := 18) cx d_Node_hearNextOf_13 (by decide) (fun b4 => ?_) (fun b4 => ?_)
  · have h := er_iff h b4
    refine er_aload_n cx d_Node_hearNextOf_18 1 rfl ?_
    refine er_getr cx d_Node_hearNextOf_19 fd_Node_25 c1.1 c1.2 ?_
    refine er_iload_n cx d_Node_hearNextOf_22 2 rfl ?_
    refine er_dup2 cx d_Node_hearNextOf_23 ?_
    refine er_iald cx d_Node_hearNextOf_24 c2.1 c2.2.1 c2.2.2 ?_
    refine er_iconst (v := 1) cx d_Node_hearNextOf_25 rfl (by decide) ?_
    refine er_iadd cx d_Node_hearNextOf_26 ?_
    obtain ⟨M7, e7, h⟩ := er_lel h
    refine er_iast cx d_Node_hearNextOf_27 c2.1 c2.2.1 c2.2.2 e7 ?_
    refine er_aload_n cx d_Node_hearNextOf_28 1 rfl ?_
    refine er_iload_n cx d_Node_hearNextOf_29 2 rfl ?_
    refine er_iload_n cx d_Node_hearNextOf_30 0 rfl ?_
    obtain ⟨q8, e8, h⟩ := er_bd h
    refine er_callV (b := p0) (As := [.inl p1, .inl q3.1]) (st := []) cx (c_Node_hear e8) my_Node_79 c1.1 ⟨by decide, by decide⟩ rfl (Nat.le_of_ble_eq_true rfl) d_Node_hearNextOf_31 ⟨Nat.zero_le _, Nat.zero_le _⟩ rfl ?_
    refine er_pop cx d_Node_hearNextOf_34 ?_
    refine er_iconst (v := 1) cx d_Node_hearNextOf_35 rfl (by decide) ?_
    obtain rfl := Option.some.inj h
    exact er_iret rt (Or.inr ⟨rfl, Or.inr rfl⟩) d_Node_hearNextOf_36 (by decide) (by decide) ⟨rfl, rfl, rfl⟩
  · have h := er_ift h b4
    refine er_iconst (v := 0) cx d_Node_hearNextOf_16 rfl (by decide) ?_
    obtain rfl := Option.some.inj h
    exact er_iret rt (Or.inr ⟨rfl, Or.inl rfl⟩) d_Node_hearNextOf_17 (by decide) (by decide) ⟨rfl, rfl, rfl⟩
theorem c_Node_hearNextOf {l : Launch} {X : er_X} {r : Int × er_Me} {p0 p1 p2 : Int} {T M : er_Me} (h : f_Node_hearNextOf p0 p1 p2 T M = some r) (hok : ∀ v ∈ ([.inr p0, .inl p1, .inr p2] : List er_V), er_ok v) : er_Ct l X y_Node_hearNextOf b_Node_hearNextOf 4 (some .boolean) rm_Node_hearNextOf [.inr p0, .inl p1, .inr p2] T M (some (.inl r.1)) T r.2 :=
  er_ct rfl rfl (Nat.le_of_ble_eq_true rfl) hok (fun K cx rt hin => w_Node_hearNextOf cx rt h)
/-! Node_makeOneValid -/
abbrev rm_Node_makeOneValid : Room := { frames := 5, cells := 0, slots := 0, locals := 114 }
def f_Node_makeOneValid_10_b (k2 : Int → Int → er_Me → Option (Int × er_Me)) (self : Int → Int → Int → er_Me → Option (Int × er_Me)) (v0 v1 v2 : Int) (T M : er_Me) : Option (Int × er_Me) :=
  if T v0 (-2) = 3 ∧ 0 < T v0 1 then
  if T (T v0 1) (-2) = 2 then
  if M (T v0 1) 0 ≤ v2 then
  er_le (er_add v1 1) fun x4 =>
  k2 v0 x4 M
  else
  (f_Node_canBecomeValid v0 v1 v2 T M).bind fun q5 =>
  if q5.1 = 0 then
  er_le (er_add v2 1) fun x7 =>
  self v0 v1 x7 q5.2
  else
  if 0 < T v0 7 then
  if T (T v0 7) (-2) = 104 ∧ 0 ≤ v1 ∧ v1 < T (T v0 7) (-1) ∧ 0 < T (T v0 7) v1 then
  if 0 < T v0 6 then
  (f_ER_cellOf v1 v2 T q5.2).bind fun q11 =>
  if T (T v0 6) (-2) = 101 ∧ 0 ≤ q11.1 ∧ q11.1 < T (T v0 6) (-1) then
  if T (T (T v0 7) v1) (-2) = 6 then
  (f_Row_append (T (T v0 7) v1) v2 (q11.2 (T v0 6) q11.1) T q11.2).bind fun q13 =>
  some (1, q13) else none else none else none else none else none else none else none
def f_Node_makeOneValid_10 (k2 : Int → Int → er_Me → Option (Int × er_Me)) : Nat → er_Me → Int → Int → Int → er_Me → Option (Int × er_Me)
  | 0, _ => fun _ _ _ _ => none
  | n + 1, T => fun v0 v1 v2 M => f_Node_makeOneValid_10_b k2 (f_Node_makeOneValid_10 k2 n T) v0 v1 v2 T M
set_option maxHeartbeats 4000000 in
theorem w_Node_makeOneValid_10_b {K : er_K} {l : Launch} {X : er_X} (cx : er_Cx K l X b_Node_makeOneValid "EchoedRounds$Node" 3 rm_Node_makeOneValid) {r : Int × er_Me} {T : er_Me} (rt : er_Rt K X b_Node_makeOneValid (some .boolean) 0 0 (some (.inl r.1)) T r.2) {k2 : Int → Int → er_Me → Option (Int × er_Me)} (hk2 : ∀ (v0 v1 : Int) (M : er_Me), k2 v0 v1 M = some r → er_G K 0 0 T M 2 [(0, .inr v0), (1, .inl v1)] []) {self : Int → Int → Int → er_Me → Option (Int × er_Me)} (hself : ∀ (v0 v1 v2 : Int) (M : er_Me), self v0 v1 v2 M = some r → er_G K 0 0 T M 10 [(0, .inr v0), (1, .inl v1), (2, .inl v2)] []) : ∀ (v0 v1 v2 : Int) (M : er_Me), f_Node_makeOneValid_10_b k2 self v0 v1 v2 T M = some r → er_G K 0 0 T M 10 [(0, .inr v0), (1, .inl v1), (2, .inl v2)] [] := by
  intro v0 v1 v2 M h
  unfold f_Node_makeOneValid_10_b at h
  refine er_iload_n cx d_Node_makeOneValid_10 2 rfl ?_
  refine er_aload_n cx d_Node_makeOneValid_11 0 rfl ?_
  obtain ⟨c1, h⟩ := er_ck h
  refine er_getr cx d_Node_makeOneValid_12 fd_Node_62 c1.1 c1.2 ?_
  obtain ⟨c2, h⟩ := er_ck h
  refine er_geti cx d_Node_makeOneValid_15 fd_Node_124 c2 ?_
  refine er_ic_ge (tgt := 58) cx d_Node_makeOneValid_18 (by decide) (fun b3 => ?_) (fun b3 => ?_)
  · have h := er_ift h b3
    obtain ⟨x4, e4, h⟩ := er_lel h
    refine er_iinc cx d_Node_makeOneValid_58 (k := 1) rfl (by decide) e4 rfl ?_
    refine er_goto (tgt := 2) cx d_Node_makeOneValid_61 (by decide) ?_
    refine er_sb cx [1, 0] rfl ?_
    exact hk2 _ _ _ h
  · have h := er_iff h b3
    refine er_aload_n cx d_Node_makeOneValid_21 0 rfl ?_
    refine er_iload_n cx d_Node_makeOneValid_22 1 rfl ?_
    refine er_iload_n cx d_Node_makeOneValid_23 2 rfl ?_
    obtain ⟨q5, e5, h⟩ := er_bd h
    refine er_callV (b := v0) (As := [.inl v1, .inl v2]) (st := []) cx (c_Node_canBecomeValid e5) my_Node_126 c1.1 ⟨by decide, by decide⟩ rfl (Nat.le_of_ble_eq_true rfl) d_Node_makeOneValid_24 ⟨Nat.zero_le _, Nat.zero_le _⟩ rfl ?_
    refine er_if_eq (tgt := 52) cx d_Node_makeOneValid_27 (by decide) (fun b6 => ?_) (fun b6 => ?_)
    · have h := er_ift h b6
      obtain ⟨x7, e7, h⟩ := er_lel h
      refine er_iinc cx d_Node_makeOneValid_52 (k := 2) rfl (by decide) e7 rfl ?_
      refine er_goto (tgt := 10) cx d_Node_makeOneValid_55 (by decide) ?_
      refine er_sb cx [1, 2, 0] rfl ?_
      exact hself _ _ _ _ h
    · have h := er_iff h b6
      refine er_aload_n cx d_Node_makeOneValid_30 0 rfl ?_
      obtain ⟨c8, h⟩ := er_ck h
      refine er_getr cx d_Node_makeOneValid_31 fd_Node_38 c1.1 c8 ?_
      refine er_iload_n cx d_Node_makeOneValid_34 1 rfl ?_
      obtain ⟨c9, h⟩ := er_ck h
      refine er_aald cx d_Node_makeOneValid_35 c9.1 (by decide) c9.2.1 c9.2.2.1 c9.2.2.2 ?_
      refine er_iload_n cx d_Node_makeOneValid_36 2 rfl ?_
      refine er_aload_n cx d_Node_makeOneValid_37 0 rfl ?_
      obtain ⟨c10, h⟩ := er_ck h
      refine er_getr cx d_Node_makeOneValid_38 fd_Node_33 c1.1 c10 ?_
      refine er_iload_n cx d_Node_makeOneValid_41 1 rfl ?_
      refine er_iload_n cx d_Node_makeOneValid_42 2 rfl ?_
      obtain ⟨q11, e11, h⟩ := er_bd h
      refine er_callS (As := [.inl v1, .inl v2]) (st := [.inr (T v0 6), .inl v2, .inr (T (T v0 7) v1)]) cx (c_ER_cellOf e11) my_Node_83 ⟨by decide, by decide⟩ rfl (Nat.le_of_ble_eq_true rfl) d_Node_makeOneValid_43 ⟨Nat.zero_le _, Nat.zero_le _⟩ rfl ?_
      obtain ⟨c12, h⟩ := er_ck h
      refine er_iald cx d_Node_makeOneValid_46 c12.1 c12.2.1 c12.2.2 ?_
      obtain ⟨c13, h⟩ := er_ck h
      obtain ⟨q13, e13, h⟩ := er_bd h
      refine er_callV (b := T (T v0 7) v1) (As := [.inl v2, .inl (q11.2 (T v0 6) q11.1)]) (st := []) cx (c_Row_append e13) my_Node_129 c13 ⟨by decide, by decide⟩ rfl (Nat.le_of_ble_eq_true rfl) d_Node_makeOneValid_47 ⟨Nat.zero_le _, Nat.zero_le _⟩ rfl ?_
      refine er_iconst (v := 1) cx d_Node_makeOneValid_50 rfl (by decide) ?_
      obtain rfl := Option.some.inj h
      exact er_iret rt (Or.inr ⟨rfl, Or.inr rfl⟩) d_Node_makeOneValid_51 (by decide) (by decide) ⟨rfl, rfl, rfl⟩
theorem w_Node_makeOneValid_10 {K : er_K} {l : Launch} {X : er_X} (cx : er_Cx K l X b_Node_makeOneValid "EchoedRounds$Node" 3 rm_Node_makeOneValid) {r : Int × er_Me} {T : er_Me} (rt : er_Rt K X b_Node_makeOneValid (some .boolean) 0 0 (some (.inl r.1)) T r.2) {k2 : Int → Int → er_Me → Option (Int × er_Me)} (hk2 : ∀ (v0 v1 : Int) (M : er_Me), k2 v0 v1 M = some r → er_G K 0 0 T M 2 [(0, .inr v0), (1, .inl v1)] []) : ∀ n : Nat, ∀ (v0 v1 v2 : Int) (M : er_Me), f_Node_makeOneValid_10 k2 n T v0 v1 v2 M = some r → er_G K 0 0 T M 10 [(0, .inr v0), (1, .inl v1), (2, .inl v2)] [] := by
  intro n
  induction n with
  | zero =>
    intro v0 v1 v2 M h
    cases h
  | succ n ih =>
    intro v0 v1 v2 M h
    exact w_Node_makeOneValid_10_b cx rt hk2 ih v0 v1 v2 M h
def f_Node_makeOneValid_2_b (self : Int → Int → er_Me → Option (Int × er_Me)) (v0 v1 : Int) (T M : er_Me) : Option (Int × er_Me) :=
  if 9 ≤ v1 then
  some (0, M)
  else
  f_Node_makeOneValid_10 self er_fu T v0 v1 0 M
def f_Node_makeOneValid_2 : Nat → er_Me → Int → Int → er_Me → Option (Int × er_Me)
  | 0, _ => fun _ _ _ => none
  | n + 1, T => fun v0 v1 M => f_Node_makeOneValid_2_b (f_Node_makeOneValid_2 n T) v0 v1 T M
set_option maxHeartbeats 4000000 in
theorem w_Node_makeOneValid_2_b {K : er_K} {l : Launch} {X : er_X} (cx : er_Cx K l X b_Node_makeOneValid "EchoedRounds$Node" 3 rm_Node_makeOneValid) {r : Int × er_Me} {T : er_Me} (rt : er_Rt K X b_Node_makeOneValid (some .boolean) 0 0 (some (.inl r.1)) T r.2) {self : Int → Int → er_Me → Option (Int × er_Me)} (hself : ∀ (v0 v1 : Int) (M : er_Me), self v0 v1 M = some r → er_G K 0 0 T M 2 [(0, .inr v0), (1, .inl v1)] []) : ∀ (v0 v1 : Int) (M : er_Me), f_Node_makeOneValid_2_b self v0 v1 T M = some r → er_G K 0 0 T M 2 [(0, .inr v0), (1, .inl v1)] [] := by
  intro v0 v1 M h
  unfold f_Node_makeOneValid_2_b at h
  refine er_iload_n cx d_Node_makeOneValid_2 1 rfl ?_
  refine er_bipush (v := 9) cx d_Node_makeOneValid_3 (by decide +kernel) (by decide) ?_
  refine er_ic_ge (tgt := 64) cx d_Node_makeOneValid_5 (by decide) (fun b1 => ?_) (fun b1 => ?_)
  · have h := er_ift h b1
    refine er_iconst (v := 0) cx d_Node_makeOneValid_64 rfl (by decide) ?_
    obtain rfl := Option.some.inj h
    exact er_iret rt (Or.inr ⟨rfl, Or.inl rfl⟩) d_Node_makeOneValid_65 (by decide) (by decide) ⟨rfl, rfl, rfl⟩
  · have h := er_iff h b1
    refine er_iconst (v := 0) cx d_Node_makeOneValid_8 rfl (by decide) ?_
    refine er_istore_n cx d_Node_makeOneValid_9 rfl (by decide) rfl ?_
    refine er_sb cx [1, 2, 0] rfl ?_
    exact w_Node_makeOneValid_10 cx rt hself er_fu _ _ _ _ h
theorem w_Node_makeOneValid_2 {K : er_K} {l : Launch} {X : er_X} (cx : er_Cx K l X b_Node_makeOneValid "EchoedRounds$Node" 3 rm_Node_makeOneValid) {r : Int × er_Me} {T : er_Me} (rt : er_Rt K X b_Node_makeOneValid (some .boolean) 0 0 (some (.inl r.1)) T r.2) : ∀ n : Nat, ∀ (v0 v1 : Int) (M : er_Me), f_Node_makeOneValid_2 n T v0 v1 M = some r → er_G K 0 0 T M 2 [(0, .inr v0), (1, .inl v1)] [] := by
  intro n
  induction n with
  | zero =>
    intro v0 v1 M h
    cases h
  | succ n ih =>
    intro v0 v1 M h
    exact w_Node_makeOneValid_2_b cx rt ih v0 v1 M h
def f_Node_makeOneValid (p0 : Int) (T M : er_Me) : Option (Int × er_Me) :=
  f_Node_makeOneValid_2 er_fu T p0 0 M
set_option maxHeartbeats 4000000 in
theorem w_Node_makeOneValid {K : er_K} {l : Launch} {X : er_X} (cx : er_Cx K l X b_Node_makeOneValid "EchoedRounds$Node" 3 rm_Node_makeOneValid) {r : Int × er_Me} {p0 : Int} {T M : er_Me} (rt : er_Rt K X b_Node_makeOneValid (some .boolean) 0 0 (some (.inl r.1)) T r.2) (h : f_Node_makeOneValid p0 T M = some r) : er_G K 0 0 T M 0 [(0, .inr p0)] [] := by
  unfold f_Node_makeOneValid at h
  refine er_iconst (v := 0) cx d_Node_makeOneValid_0 rfl (by decide) ?_
  refine er_istore_n cx d_Node_makeOneValid_1 rfl (by decide) rfl ?_
  refine er_sb cx [1, 0] rfl ?_
  exact w_Node_makeOneValid_2 cx rt er_fu _ _ _ h
theorem c_Node_makeOneValid {l : Launch} {X : er_X} {r : Int × er_Me} {p0 : Int} {T M : er_Me} (h : f_Node_makeOneValid p0 T M = some r) (hok : ∀ v ∈ ([.inr p0] : List er_V), er_ok v) : er_Ct l X y_Node_makeOneValid b_Node_makeOneValid 3 (some .boolean) rm_Node_makeOneValid [.inr p0] T M (some (.inl r.1)) T r.2 :=
  er_ct rfl rfl (Nat.le_of_ble_eq_true rfl) hok (fun K cx rt hin => w_Node_makeOneValid cx rt h)
/-! Node_goOn -/
abbrev rm_Node_goOn : Room := { frames := 4, cells := 0, slots := 0, locals := 94 }
def f_Node_goOn (p0 : Int) (T M : er_Me) : Option (Int × er_Me) :=
  if T p0 (-2) = 3 then
  (f_ER_isSlot (M p0 10) T M).bind fun q2 =>
  if q2.1 = 0 then
  some (0, q2.2)
  else
  if 0 < T p0 1 then
  if 0 < T p0 7 then
  if T (T p0 7) (-2) = 104 ∧ 0 ≤ q2.2 p0 10 ∧ q2.2 p0 10 < T (T p0 7) (-1) ∧ 0 < T (T p0 7) (q2.2 p0 10) then
  if T (T p0 1) (-2) = 2 then
  (f_Rules_isFull (T p0 1) (T (T p0 7) (q2.2 p0 10)) T q2.2).bind fun q9 =>
  if q9.1 = 0 then
  some (0, q9.2)
  else
  (f_Node_valueAfter p0 (q9.2 p0 10) T q9.2).bind fun q13 =>
  (f_Node_enter p0 (er_add (q9.2 p0 10) 1) q13.1 T q13.2).bind fun q14 =>
  some (1, q14) else none else none else none else none else none
set_option maxHeartbeats 4000000 in
theorem w_Node_goOn {K : er_K} {l : Launch} {X : er_X} (cx : er_Cx K l X b_Node_goOn "EchoedRounds$Node" 1 rm_Node_goOn) {r : Int × er_Me} {p0 : Int} {T M : er_Me} (rt : er_Rt K X b_Node_goOn (some .boolean) 0 0 (some (.inl r.1)) T r.2) (h : f_Node_goOn p0 T M = some r) : er_G K 0 0 T M 0 [(0, .inr p0)] [] := by
  unfold f_Node_goOn at h
  refine er_aload_n cx d_Node_goOn_0 0 rfl ?_
  obtain ⟨c1, h⟩ := er_ck h
  refine er_geti cx d_Node_goOn_1 fd_Node_50 c1 ?_
  obtain ⟨q2, e2, h⟩ := er_bd h
  refine er_callS (As := [.inl (M p0 10)]) (st := []) cx (c_ER_isSlot e2) my_Node_143 ⟨by decide, by decide⟩ rfl (Nat.le_of_ble_eq_true rfl) d_Node_goOn_4 ⟨Nat.zero_le _, Nat.zero_le _⟩ rfl ?_
  refine er_if_eq (tgt := 29) cx d_Node_goOn_7 (by decide) (fun b3 => ?_) (fun b3 => ?_)
  · have h := er_ift h b3
    refine er_iconst (v := 0) cx d_Node_goOn_29 rfl (by decide) ?_
    obtain rfl := Option.some.inj h
    exact er_iret rt (Or.inr ⟨rfl, Or.inl rfl⟩) d_Node_goOn_30 (by decide) (by decide) ⟨rfl, rfl, rfl⟩
  · have h := er_iff h b3
    refine er_aload_n cx d_Node_goOn_10 0 rfl ?_
    obtain ⟨c5, h⟩ := er_ck h
    refine er_getr cx d_Node_goOn_11 fd_Node_62 c1 c5 ?_
    refine er_aload_n cx d_Node_goOn_14 0 rfl ?_
    obtain ⟨c6, h⟩ := er_ck h
    refine er_getr cx d_Node_goOn_15 fd_Node_38 c1 c6 ?_
    refine er_aload_n cx d_Node_goOn_18 0 rfl ?_
    refine er_geti cx d_Node_goOn_19 fd_Node_50 c1 ?_
    obtain ⟨c8, h⟩ := er_ck h
    refine er_aald cx d_Node_goOn_22 c8.1 (by decide) c8.2.1 c8.2.2.1 c8.2.2.2 ?_
    obtain ⟨c9, h⟩ := er_ck h
    obtain ⟨q9, e9, h⟩ := er_bd h
    refine er_callV (b := T p0 1) (As := [.inr (T (T p0 7) (q2.2 p0 10))]) (st := []) cx (c_Rules_isFull e9) my_Node_146 c9 ⟨by decide, by decide⟩ rfl (Nat.le_of_ble_eq_true rfl) d_Node_goOn_23 ⟨Nat.zero_le _, Nat.zero_le _⟩ rfl ?_
    refine er_if_ne (tgt := 31) cx d_Node_goOn_26 (by decide) (fun b10 => ?_) (fun b10 => ?_)
    · have h := er_iff h b10
      refine er_aload_n cx d_Node_goOn_31 0 rfl ?_
      refine er_aload_n cx d_Node_goOn_32 0 rfl ?_
      refine er_geti cx d_Node_goOn_33 fd_Node_50 c1 ?_
      refine er_iconst (v := 1) cx d_Node_goOn_36 rfl (by decide) ?_
      refine er_iadd cx d_Node_goOn_37 ?_
      refine er_aload_n cx d_Node_goOn_38 0 rfl ?_
      refine er_aload_n cx d_Node_goOn_39 0 rfl ?_
      refine er_geti cx d_Node_goOn_40 fd_Node_50 c1 ?_
      obtain ⟨q13, e13, h⟩ := er_bd h
      refine er_callV (b := p0) (As := [.inl (q9.2 p0 10)]) (st := [.inl (er_add (q9.2 p0 10) 1), .inr p0]) cx (c_Node_valueAfter e13) my_Node_150 c1 ⟨by decide, by decide⟩ rfl (Nat.le_of_ble_eq_true rfl) d_Node_goOn_43 ⟨Nat.zero_le _, Nat.zero_le _⟩ rfl ?_
      obtain ⟨q14, e14, h⟩ := er_bd h
      refine er_callV (b := p0) (As := [.inl (er_add (q9.2 p0 10) 1), .inl q13.1]) (st := []) cx (c_Node_enter e14) my_Node_153 c1 ⟨by decide, by decide⟩ rfl (Nat.le_of_ble_eq_true rfl) d_Node_goOn_46 ⟨Nat.zero_le _, Nat.zero_le _⟩ rfl ?_
      refine er_iconst (v := 1) cx d_Node_goOn_49 rfl (by decide) ?_
      obtain rfl := Option.some.inj h
      exact er_iret rt (Or.inr ⟨rfl, Or.inr rfl⟩) d_Node_goOn_50 (by decide) (by decide) ⟨rfl, rfl, rfl⟩
    · have h := er_ift h b10
      refine er_iconst (v := 0) cx d_Node_goOn_29 rfl (by decide) ?_
      obtain rfl := Option.some.inj h
      exact er_iret rt (Or.inr ⟨rfl, Or.inl rfl⟩) d_Node_goOn_30 (by decide) (by decide) ⟨rfl, rfl, rfl⟩
theorem c_Node_goOn {l : Launch} {X : er_X} {r : Int × er_Me} {p0 : Int} {T M : er_Me} (h : f_Node_goOn p0 T M = some r) (hok : ∀ v ∈ ([.inr p0] : List er_V), er_ok v) : er_Ct l X y_Node_goOn b_Node_goOn 1 (some .boolean) rm_Node_goOn [.inr p0] T M (some (.inl r.1)) T r.2 :=
  er_ct rfl rfl (Nat.le_of_ble_eq_true rfl) hok (fun K cx rt hin => w_Node_goOn cx rt h)
/-! Node_settle -/
abbrev rm_Node_settle : Room := { frames := 6, cells := 0, slots := 0, locals := 136 }
def f_Node_settle_2_b (self : Int → Int → er_Me → Option (er_Me)) (v0 v1 : Int) (T M : er_Me) : Option (er_Me) :=
  if 1000 ≤ v1 then
  some M
  else
  if T v0 (-2) = 3 then
  if 0 < T v0 2 then
  (f_Node_hearNextOf v0 (M v0 0) (T v0 2) T M).bind fun q4 =>
  if q4.1 = 0 then
  (f_Node_makeOneValid v0 T q4.2).bind fun q7 =>
  if q7.1 = 0 then
  (f_Node_goOn v0 T q7.2).bind fun q10 =>
  if q10.1 = 0 then
  some q10.2
  else
  er_le (er_add v1 1) fun x12 =>
  self v0 x12 q10.2
  else
  er_le (er_add v1 1) fun x9 =>
  self v0 x9 q7.2
  else
  er_le (er_add v1 1) fun x6 =>
  self v0 x6 q4.2 else none else none
def f_Node_settle_2 : Nat → er_Me → Int → Int → er_Me → Option (er_Me)
  | 0, _ => fun _ _ _ => none
  | n + 1, T => fun v0 v1 M => f_Node_settle_2_b (f_Node_settle_2 n T) v0 v1 T M
set_option maxHeartbeats 4000000 in
theorem w_Node_settle_2_b {K : er_K} {l : Launch} {X : er_X} (cx : er_Cx K l X b_Node_settle "EchoedRounds$Node" 2 rm_Node_settle) {r : er_Me} {T : er_Me} (rt : er_Rt K X b_Node_settle (none) 0 0 none T r) {self : Int → Int → er_Me → Option (er_Me)} (hself : ∀ (v0 v1 : Int) (M : er_Me), self v0 v1 M = some r → er_G K 0 0 T M 2 [(0, .inr v0), (1, .inl v1)] []) : ∀ (v0 v1 : Int) (M : er_Me), f_Node_settle_2_b self v0 v1 T M = some r → er_G K 0 0 T M 2 [(0, .inr v0), (1, .inl v1)] [] := by
  intro v0 v1 M h
  unfold f_Node_settle_2_b at h
  refine er_iload_n cx d_Node_settle_2 1 rfl ?_
  refine er_sipush (v := 1000) cx d_Node_settle_3 (by decide +kernel) (by decide) ?_
  refine er_ic_ge (tgt := 45) cx d_Node_settle_6 (by decide) (fun b1 => ?_) (fun b1 => ?_)
  · have h := er_ift h b1
    obtain rfl := Option.some.inj h
    exact er_vret rt d_Node_settle_45 (by decide) (by decide) ⟨rfl, rfl, rfl⟩
  · have h := er_iff h b1
    refine er_aload_n cx d_Node_settle_9 0 rfl ?_
    refine er_aload_n cx d_Node_settle_10 0 rfl ?_
    obtain ⟨c2, h⟩ := er_ck h
    refine er_geti cx d_Node_settle_11 fd_Node_59 c2 ?_
    refine er_aload_n cx d_Node_settle_14 0 rfl ?_
    obtain ⟨c3, h⟩ := er_ck h
    refine er_getr cx d_Node_settle_15 fd_Node_12 c2 c3 ?_
    obtain ⟨q4, e4, h⟩ := er_bd h
    refine er_callV (b := v0) (As := [.inl (M v0 0), .inr (T v0 2)]) (st := []) cx (c_Node_hearNextOf e4) my_Node_113 c2 ⟨by decide, by decide⟩ rfl (Nat.le_of_ble_eq_true rfl) d_Node_settle_18 ⟨Nat.zero_le _, Nat.zero_le _⟩ rfl ?_
    refine er_if_ne (tgt := 39) cx d_Node_settle_21 (by decide) (fun b5 => ?_) (fun b5 => ?_)
    · have h := er_iff h b5
      obtain ⟨x6, e6, h⟩ := er_lel h
      refine er_iinc cx d_Node_settle_39 (k := 1) rfl (by decide) e6 rfl ?_
      refine er_goto (tgt := 2) cx d_Node_settle_42 (by decide) ?_
      refine er_sb cx [1, 0] rfl ?_
      exact hself _ _ _ h
    · have h := er_ift h b5
      refine er_aload_n cx d_Node_settle_24 0 rfl ?_
      obtain ⟨q7, e7, h⟩ := er_bd h
      refine er_callV (b := v0) (As := []) (st := []) cx (c_Node_makeOneValid e7) my_Node_117 c2 ⟨by decide, by decide⟩ rfl (Nat.le_of_ble_eq_true rfl) d_Node_settle_25 ⟨Nat.zero_le _, Nat.zero_le _⟩ rfl ?_
      refine er_if_ne (tgt := 39) cx d_Node_settle_28 (by decide) (fun b8 => ?_) (fun b8 => ?_)
      · have h := er_iff h b8
        obtain ⟨x9, e9, h⟩ := er_lel h
        refine er_iinc cx d_Node_settle_39 (k := 1) rfl (by decide) e9 rfl ?_
        refine er_goto (tgt := 2) cx d_Node_settle_42 (by decide) ?_
        refine er_sb cx [1, 0] rfl ?_
        exact hself _ _ _ h
      · have h := er_ift h b8
        refine er_aload_n cx d_Node_settle_31 0 rfl ?_
        obtain ⟨q10, e10, h⟩ := er_bd h
        refine er_callV (b := v0) (As := []) (st := []) cx (c_Node_goOn e10) my_Node_121 c2 ⟨by decide, by decide⟩ rfl (Nat.le_of_ble_eq_true rfl) d_Node_settle_32 ⟨Nat.zero_le _, Nat.zero_le _⟩ rfl ?_
        refine er_if_ne (tgt := 39) cx d_Node_settle_35 (by decide) (fun b11 => ?_) (fun b11 => ?_)
        · have h := er_iff h b11
          obtain ⟨x12, e12, h⟩ := er_lel h
          refine er_iinc cx d_Node_settle_39 (k := 1) rfl (by decide) e12 rfl ?_
          refine er_goto (tgt := 2) cx d_Node_settle_42 (by decide) ?_
          refine er_sb cx [1, 0] rfl ?_
          exact hself _ _ _ h
        · have h := er_ift h b11
          obtain rfl := Option.some.inj h
          exact er_vret rt d_Node_settle_38 (by decide) (by decide) ⟨rfl, rfl, rfl⟩
theorem w_Node_settle_2 {K : er_K} {l : Launch} {X : er_X} (cx : er_Cx K l X b_Node_settle "EchoedRounds$Node" 2 rm_Node_settle) {r : er_Me} {T : er_Me} (rt : er_Rt K X b_Node_settle (none) 0 0 none T r) : ∀ n : Nat, ∀ (v0 v1 : Int) (M : er_Me), f_Node_settle_2 n T v0 v1 M = some r → er_G K 0 0 T M 2 [(0, .inr v0), (1, .inl v1)] [] := by
  intro n
  induction n with
  | zero =>
    intro v0 v1 M h
    cases h
  | succ n ih =>
    intro v0 v1 M h
    exact w_Node_settle_2_b cx rt ih v0 v1 M h
def f_Node_settle (p0 : Int) (T M : er_Me) : Option (er_Me) :=
  f_Node_settle_2 er_fu T p0 0 M
set_option maxHeartbeats 4000000 in
theorem w_Node_settle {K : er_K} {l : Launch} {X : er_X} (cx : er_Cx K l X b_Node_settle "EchoedRounds$Node" 2 rm_Node_settle) {r : er_Me} {p0 : Int} {T M : er_Me} (rt : er_Rt K X b_Node_settle (none) 0 0 none T r) (h : f_Node_settle p0 T M = some r) : er_G K 0 0 T M 0 [(0, .inr p0)] [] := by
  unfold f_Node_settle at h
  refine er_iconst (v := 0) cx d_Node_settle_0 rfl (by decide) ?_
  refine er_istore_n cx d_Node_settle_1 rfl (by decide) rfl ?_
  refine er_sb cx [1, 0] rfl ?_
  exact w_Node_settle_2 cx rt er_fu _ _ _ h
theorem c_Node_settle {l : Launch} {X : er_X} {r : er_Me} {p0 : Int} {T M : er_Me} (h : f_Node_settle p0 T M = some r) (hok : ∀ v ∈ ([.inr p0] : List er_V), er_ok v) : er_Ct l X y_Node_settle b_Node_settle 2 (none) rm_Node_settle [.inr p0] T M none T r :=
  er_ct rfl rfl (Nat.le_of_ble_eq_true rfl) hok (fun K cx rt hin => w_Node_settle cx rt h)
end
section
theorem d_ER_isNode_0 : decode b_ER_isNode 0 = .ok (.iload_n 1, 1) := by decide +kernel
theorem d_ER_isNode_1 : decode b_ER_isNode 1 = .ok (.ifCond .lt 16, 3) := by decide +kernel
theorem d_ER_isNode_4 : decode b_ER_isNode 4 = .ok (.iload_n 1, 1) := by decide +kernel
theorem d_ER_isNode_5 : decode b_ER_isNode 5 = .ok (.aload_n 0, 1) := by decide +kernel
theorem d_ER_isNode_6 : decode b_ER_isNode 6 = .ok (.getfield 25, 3) := by decide +kernel
theorem d_ER_isNode_9 : decode b_ER_isNode 9 = .ok (.arraylength, 1) := by decide +kernel
theorem d_ER_isNode_10 : decode b_ER_isNode 10 = .ok (.if_icmp .ge 7, 3) := by decide +kernel
theorem d_ER_isNode_13 : decode b_ER_isNode 13 = .ok (.iconst 1, 1) := by decide +kernel
theorem d_ER_isNode_14 : decode b_ER_isNode 14 = .ok (.goto 4, 3) := by decide +kernel
theorem d_ER_isNode_17 : decode b_ER_isNode 17 = .ok (.iconst 0, 1) := by decide +kernel
theorem d_ER_isNode_18 : decode b_ER_isNode 18 = .ok (.ireturn, 1) := by decide +kernel
theorem d_ER_isWellBehaved_0 : decode b_ER_isWellBehaved 0 = .ok (.aload_n 0, 1) := by decide +kernel
theorem d_ER_isWellBehaved_1 : decode b_ER_isWellBehaved 1 = .ok (.iload_n 1, 1) := by decide +kernel
theorem d_ER_isWellBehaved_2 : decode b_ER_isWellBehaved 2 = .ok (.invokevirtual 57, 3) := by decide +kernel
theorem d_ER_isWellBehaved_5 : decode b_ER_isWellBehaved 5 = .ok (.ifCond .eq 19, 3) := by decide +kernel
theorem d_ER_isWellBehaved_8 : decode b_ER_isWellBehaved 8 = .ok (.aload_n 0, 1) := by decide +kernel
theorem d_ER_isWellBehaved_9 : decode b_ER_isWellBehaved 9 = .ok (.getfield 25, 3) := by decide +kernel
theorem d_ER_isWellBehaved_12 : decode b_ER_isWellBehaved 12 = .ok (.iload_n 1, 1) := by decide +kernel
theorem d_ER_isWellBehaved_13 : decode b_ER_isWellBehaved 13 = .ok (.aaload, 1) := by decide +kernel
theorem d_ER_isWellBehaved_14 : decode b_ER_isWellBehaved 14 = .ok (.getfield 36, 3) := by decide +kernel
theorem d_ER_isWellBehaved_17 : decode b_ER_isWellBehaved 17 = .ok (.ifCond .eq 7, 3) := by decide +kernel
theorem d_ER_isWellBehaved_20 : decode b_ER_isWellBehaved 20 = .ok (.iconst 1, 1) := by decide +kernel
theorem d_ER_isWellBehaved_21 : decode b_ER_isWellBehaved 21 = .ok (.goto 4, 3) := by decide +kernel
theorem d_ER_isWellBehaved_24 : decode b_ER_isWellBehaved 24 = .ok (.iconst 0, 1) := by decide +kernel
theorem d_ER_isWellBehaved_25 : decode b_ER_isWellBehaved 25 = .ok (.ireturn, 1) := by decide +kernel
theorem d_ER_sent_0 : decode b_ER_sent 0 = .ok (.aload_n 0, 1) := by decide +kernel
theorem d_ER_sent_1 : decode b_ER_sent 1 = .ok (.iload_n 1, 1) := by decide +kernel
theorem d_ER_sent_2 : decode b_ER_sent 2 = .ok (.invokevirtual 57, 3) := by decide +kernel
theorem d_ER_sent_5 : decode b_ER_sent 5 = .ok (.ifCond .eq 18, 3) := by decide +kernel
theorem d_ER_sent_8 : decode b_ER_sent 8 = .ok (.aload_n 0, 1) := by decide +kernel
theorem d_ER_sent_9 : decode b_ER_sent 9 = .ok (.getfield 25, 3) := by decide +kernel
theorem d_ER_sent_12 : decode b_ER_sent 12 = .ok (.iload_n 1, 1) := by decide +kernel
theorem d_ER_sent_13 : decode b_ER_sent 13 = .ok (.aaload, 1) := by decide +kernel
theorem d_ER_sent_14 : decode b_ER_sent 14 = .ok (.getfield 60, 3) := by decide +kernel
theorem d_ER_sent_17 : decode b_ER_sent 17 = .ok (.getfield 79, 3) := by decide +kernel
theorem d_ER_sent_20 : decode b_ER_sent 20 = .ok (.goto 4, 3) := by decide +kernel
theorem d_ER_sent_23 : decode b_ER_sent 23 = .ok (.iconst (-1), 1) := by decide +kernel
theorem d_ER_sent_24 : decode b_ER_sent 24 = .ok (.ireturn, 1) := by decide +kernel
theorem d_ER_message_0 : decode b_ER_message 0 = .ok (.aload_n 0, 1) := by decide +kernel
theorem d_ER_message_1 : decode b_ER_message 1 = .ok (.iload_n 1, 1) := by decide +kernel
theorem d_ER_message_2 : decode b_ER_message 2 = .ok (.invokevirtual 57, 3) := by decide +kernel
theorem d_ER_message_5 : decode b_ER_message 5 = .ok (.ifCond .eq 19, 3) := by decide +kernel
theorem d_ER_message_8 : decode b_ER_message 8 = .ok (.aload_n 0, 1) := by decide +kernel
theorem d_ER_message_9 : decode b_ER_message 9 = .ok (.getfield 25, 3) := by decide +kernel
theorem d_ER_message_12 : decode b_ER_message 12 = .ok (.iload_n 1, 1) := by decide +kernel
theorem d_ER_message_13 : decode b_ER_message 13 = .ok (.aaload, 1) := by decide +kernel
theorem d_ER_message_14 : decode b_ER_message 14 = .ok (.getfield 60, 3) := by decide +kernel
theorem d_ER_message_17 : decode b_ER_message 17 = .ok (.iload_n 2, 1) := by decide +kernel
theorem d_ER_message_18 : decode b_ER_message 18 = .ok (.invokevirtual 84, 3) := by decide +kernel
theorem d_ER_message_21 : decode b_ER_message 21 = .ok (.goto 4, 3) := by decide +kernel
theorem d_ER_message_24 : decode b_ER_message 24 = .ok (.iconst (-1), 1) := by decide +kernel
theorem d_ER_message_25 : decode b_ER_message 25 = .ok (.ireturn, 1) := by decide +kernel
theorem d_ER_waiting_0 : decode b_ER_waiting 0 = .ok (.aload_n 0, 1) := by decide +kernel
theorem d_ER_waiting_1 : decode b_ER_waiting 1 = .ok (.iload_n 1, 1) := by decide +kernel
theorem d_ER_waiting_2 : decode b_ER_waiting 2 = .ok (.invokevirtual 57, 3) := by decide +kernel
theorem d_ER_waiting_5 : decode b_ER_waiting 5 = .ok (.ifCond .eq 38, 3) := by decide +kernel
theorem d_ER_waiting_8 : decode b_ER_waiting 8 = .ok (.aload_n 0, 1) := by decide +kernel
theorem d_ER_waiting_9 : decode b_ER_waiting 9 = .ok (.iload_n 2, 1) := by decide +kernel
theorem d_ER_waiting_10 : decode b_ER_waiting 10 = .ok (.invokevirtual 57, 3) := by decide +kernel
theorem d_ER_waiting_13 : decode b_ER_waiting 13 = .ok (.ifCond .eq 30, 3) := by decide +kernel
theorem d_ER_waiting_16 : decode b_ER_waiting 16 = .ok (.aload_n 0, 1) := by decide +kernel
theorem d_ER_waiting_17 : decode b_ER_waiting 17 = .ok (.getfield 25, 3) := by decide +kernel
theorem d_ER_waiting_20 : decode b_ER_waiting 20 = .ok (.iload_n 1, 1) := by decide +kernel
theorem d_ER_waiting_21 : decode b_ER_waiting 21 = .ok (.aaload, 1) := by decide +kernel
theorem d_ER_waiting_22 : decode b_ER_waiting 22 = .ok (.getfield 60, 3) := by decide +kernel
theorem d_ER_waiting_25 : decode b_ER_waiting 25 = .ok (.getfield 79, 3) := by decide +kernel
theorem d_ER_waiting_28 : decode b_ER_waiting 28 = .ok (.aload_n 0, 1) := by decide +kernel
theorem d_ER_waiting_29 : decode b_ER_waiting 29 = .ok (.getfield 25, 3) := by decide +kernel
theorem d_ER_waiting_32 : decode b_ER_waiting 32 = .ok (.iload_n 2, 1) := by decide +kernel
theorem d_ER_waiting_33 : decode b_ER_waiting 33 = .ok (.aaload, 1) := by decide +kernel
theorem d_ER_waiting_34 : decode b_ER_waiting 34 = .ok (.getfield 88, 3) := by decide +kernel
theorem d_ER_waiting_37 : decode b_ER_waiting 37 = .ok (.iload_n 1, 1) := by decide +kernel
theorem d_ER_waiting_38 : decode b_ER_waiting 38 = .ok (.iaload, 1) := by decide +kernel
theorem d_ER_waiting_39 : decode b_ER_waiting 39 = .ok (.isub, 1) := by decide +kernel
theorem d_ER_waiting_40 : decode b_ER_waiting 40 = .ok (.goto 4, 3) := by decide +kernel
theorem d_ER_waiting_43 : decode b_ER_waiting 43 = .ok (.iconst (-1), 1) := by decide +kernel
theorem d_ER_waiting_44 : decode b_ER_waiting 44 = .ok (.ireturn, 1) := by decide +kernel
theorem d_ER_votes_0 : decode b_ER_votes 0 = .ok (.aload_n 0, 1) := by decide +kernel
theorem d_ER_votes_1 : decode b_ER_votes 1 = .ok (.iload_n 1, 1) := by decide +kernel
theorem d_ER_votes_2 : decode b_ER_votes 2 = .ok (.invokevirtual 57, 3) := by decide +kernel
theorem d_ER_votes_5 : decode b_ER_votes 5 = .ok (.ifCond .eq 29, 3) := by decide +kernel
theorem d_ER_votes_8 : decode b_ER_votes 8 = .ok (.iload_n 2, 1) := by decide +kernel
theorem d_ER_votes_9 : decode b_ER_votes 9 = .ok (.invokestatic 68, 3) := by decide +kernel
theorem d_ER_votes_12 : decode b_ER_votes 12 = .ok (.ifCond .eq 22, 3) := by decide +kernel
theorem d_ER_votes_15 : decode b_ER_votes 15 = .ok (.aload_n 0, 1) := by decide +kernel
theorem d_ER_votes_16 : decode b_ER_votes 16 = .ok (.iload_n 3, 1) := by decide +kernel
theorem d_ER_votes_17 : decode b_ER_votes 17 = .ok (.invokevirtual 57, 3) := by decide +kernel
theorem d_ER_votes_20 : decode b_ER_votes 20 = .ok (.ifCond .eq 14, 3) := by decide +kernel
theorem d_ER_votes_23 : decode b_ER_votes 23 = .ok (.iload 4, 2) := by decide +kernel
theorem d_ER_votes_25 : decode b_ER_votes 25 = .ok (.ifCond .lt 9, 3) := by decide +kernel
theorem d_ER_votes_28 : decode b_ER_votes 28 = .ok (.iload 4, 2) := by decide +kernel
theorem d_ER_votes_30 : decode b_ER_votes 30 = .ok (.iconst 4, 1) := by decide +kernel
theorem d_ER_votes_31 : decode b_ER_votes 31 = .ok (.if_icmp .lt 5, 3) := by decide +kernel
theorem d_ER_votes_34 : decode b_ER_votes 34 = .ok (.iconst 0, 1) := by decide +kernel
theorem d_ER_votes_35 : decode b_ER_votes 35 = .ok (.ireturn, 1) := by decide +kernel
theorem d_ER_votes_36 : decode b_ER_votes 36 = .ok (.aload_n 0, 1) := by decide +kernel
theorem d_ER_votes_37 : decode b_ER_votes 37 = .ok (.getfield 25, 3) := by decide +kernel
theorem d_ER_votes_40 : decode b_ER_votes 40 = .ok (.iload_n 1, 1) := by decide +kernel
theorem d_ER_votes_41 : decode b_ER_votes 41 = .ok (.aaload, 1) := by decide +kernel
theorem d_ER_votes_42 : decode b_ER_votes 42 = .ok (.getfield 92, 3) := by decide +kernel
theorem d_ER_votes_45 : decode b_ER_votes 45 = .ok (.iload 5, 2) := by decide +kernel
theorem d_ER_votes_47 : decode b_ER_votes 47 = .ok (.ifCond .eq 7, 3) := by decide +kernel
theorem d_ER_votes_50 : decode b_ER_votes 50 = .ok (.iconst 2, 1) := by decide +kernel
theorem d_ER_votes_51 : decode b_ER_votes 51 = .ok (.goto 4, 3) := by decide +kernel
theorem d_ER_votes_54 : decode b_ER_votes 54 = .ok (.iconst 1, 1) := by decide +kernel
theorem d_ER_votes_55 : decode b_ER_votes 55 = .ok (.iload_n 2, 1) := by decide +kernel
theorem d_ER_votes_56 : decode b_ER_votes 56 = .ok (.iload_n 3, 1) := by decide +kernel
theorem d_ER_votes_57 : decode b_ER_votes 57 = .ok (.invokestatic 96, 3) := by decide +kernel
theorem d_ER_votes_60 : decode b_ER_votes 60 = .ok (.iload 4, 2) := by decide +kernel
theorem d_ER_votes_62 : decode b_ER_votes 62 = .ok (.invokevirtual 99, 3) := by decide +kernel
theorem d_ER_votes_65 : decode b_ER_votes 65 = .ok (.ireturn, 1) := by decide +kernel
theorem d_ER_accepted_0 : decode b_ER_accepted 0 = .ok (.aload_n 0, 1) := by decide +kernel
theorem d_ER_accepted_1 : decode b_ER_accepted 1 = .ok (.iload_n 1, 1) := by decide +kernel
theorem d_ER_accepted_2 : decode b_ER_accepted 2 = .ok (.invokevirtual 57, 3) := by decide +kernel
theorem d_ER_accepted_5 : decode b_ER_accepted 5 = .ok (.ifCond .eq 18, 3) := by decide +kernel
theorem d_ER_accepted_8 : decode b_ER_accepted 8 = .ok (.iload_n 2, 1) := by decide +kernel
theorem d_ER_accepted_9 : decode b_ER_accepted 9 = .ok (.invokestatic 68, 3) := by decide +kernel
theorem d_ER_accepted_12 : decode b_ER_accepted 12 = .ok (.ifCond .eq 11, 3) := by decide +kernel
theorem d_ER_accepted_15 : decode b_ER_accepted 15 = .ok (.aload_n 0, 1) := by decide +kernel
theorem d_ER_accepted_16 : decode b_ER_accepted 16 = .ok (.iload_n 3, 1) := by decide +kernel
theorem d_ER_accepted_17 : decode b_ER_accepted 17 = .ok (.invokevirtual 57, 3) := by decide +kernel
theorem d_ER_accepted_20 : decode b_ER_accepted 20 = .ok (.ifCond .ne 5, 3) := by decide +kernel
theorem d_ER_accepted_23 : decode b_ER_accepted 23 = .ok (.iconst (-1), 1) := by decide +kernel
theorem d_ER_accepted_24 : decode b_ER_accepted 24 = .ok (.ireturn, 1) := by decide +kernel
theorem d_ER_accepted_25 : decode b_ER_accepted 25 = .ok (.aload_n 0, 1) := by decide +kernel
theorem d_ER_accepted_26 : decode b_ER_accepted 26 = .ok (.getfield 25, 3) := by decide +kernel
theorem d_ER_accepted_29 : decode b_ER_accepted 29 = .ok (.iload_n 1, 1) := by decide +kernel
theorem d_ER_accepted_30 : decode b_ER_accepted 30 = .ok (.aaload, 1) := by decide +kernel
theorem d_ER_accepted_31 : decode b_ER_accepted 31 = .ok (.getfield 105, 3) := by decide +kernel
theorem d_ER_accepted_34 : decode b_ER_accepted 34 = .ok (.iload_n 2, 1) := by decide +kernel
theorem d_ER_accepted_35 : decode b_ER_accepted 35 = .ok (.iload_n 3, 1) := by decide +kernel
theorem d_ER_accepted_36 : decode b_ER_accepted 36 = .ok (.invokestatic 96, 3) := by decide +kernel
theorem d_ER_accepted_39 : decode b_ER_accepted 39 = .ok (.iaload, 1) := by decide +kernel
theorem d_ER_accepted_40 : decode b_ER_accepted 40 = .ok (.ireturn, 1) := by decide +kernel
theorem d_ER_rowAt_0 : decode b_ER_rowAt 0 = .ok (.aload_n 0, 1) := by decide +kernel
theorem d_ER_rowAt_1 : decode b_ER_rowAt 1 = .ok (.iload_n 1, 1) := by decide +kernel
theorem d_ER_rowAt_2 : decode b_ER_rowAt 2 = .ok (.invokevirtual 57, 3) := by decide +kernel
theorem d_ER_rowAt_5 : decode b_ER_rowAt 5 = .ok (.ifCond .eq 28, 3) := by decide +kernel
theorem d_ER_rowAt_8 : decode b_ER_rowAt 8 = .ok (.iload_n 2, 1) := by decide +kernel
theorem d_ER_rowAt_9 : decode b_ER_rowAt 9 = .ok (.invokestatic 68, 3) := by decide +kernel
theorem d_ER_rowAt_12 : decode b_ER_rowAt 12 = .ok (.ifCond .eq 21, 3) := by decide +kernel
theorem d_ER_rowAt_15 : decode b_ER_rowAt 15 = .ok (.aload_n 0, 1) := by decide +kernel
theorem d_ER_rowAt_16 : decode b_ER_rowAt 16 = .ok (.getfield 25, 3) := by decide +kernel
theorem d_ER_rowAt_19 : decode b_ER_rowAt 19 = .ok (.iload_n 1, 1) := by decide +kernel
theorem d_ER_rowAt_20 : decode b_ER_rowAt 20 = .ok (.aaload, 1) := by decide +kernel
theorem d_ER_rowAt_21 : decode b_ER_rowAt 21 = .ok (.getfield 108, 3) := by decide +kernel
theorem d_ER_rowAt_24 : decode b_ER_rowAt 24 = .ok (.iload_n 2, 1) := by decide +kernel
theorem d_ER_rowAt_25 : decode b_ER_rowAt 25 = .ok (.aaload, 1) := by decide +kernel
theorem d_ER_rowAt_26 : decode b_ER_rowAt 26 = .ok (.iload_n 3, 1) := by decide +kernel
theorem d_ER_rowAt_27 : decode b_ER_rowAt 27 = .ok (.invokevirtual 112, 3) := by decide +kernel
theorem d_ER_rowAt_30 : decode b_ER_rowAt 30 = .ok (.goto 4, 3) := by decide +kernel
theorem d_ER_rowAt_33 : decode b_ER_rowAt 33 = .ok (.iconst (-1), 1) := by decide +kernel
theorem d_ER_rowAt_34 : decode b_ER_rowAt 34 = .ok (.ireturn, 1) := by decide +kernel
theorem d_ER_slot_0 : decode b_ER_slot 0 = .ok (.aload_n 0, 1) := by decide +kernel
theorem d_ER_slot_1 : decode b_ER_slot 1 = .ok (.iload_n 1, 1) := by decide +kernel
theorem d_ER_slot_2 : decode b_ER_slot 2 = .ok (.invokevirtual 57, 3) := by decide +kernel
theorem d_ER_slot_5 : decode b_ER_slot 5 = .ok (.ifCond .eq 15, 3) := by decide +kernel
theorem d_ER_slot_8 : decode b_ER_slot 8 = .ok (.aload_n 0, 1) := by decide +kernel
theorem d_ER_slot_9 : decode b_ER_slot 9 = .ok (.getfield 25, 3) := by decide +kernel
theorem d_ER_slot_12 : decode b_ER_slot 12 = .ok (.iload_n 1, 1) := by decide +kernel
theorem d_ER_slot_13 : decode b_ER_slot 13 = .ok (.aaload, 1) := by decide +kernel
theorem d_ER_slot_14 : decode b_ER_slot 14 = .ok (.getfield 44, 3) := by decide +kernel
theorem d_ER_slot_17 : decode b_ER_slot 17 = .ok (.goto 4, 3) := by decide +kernel
theorem d_ER_slot_20 : decode b_ER_slot 20 = .ok (.iconst (-1), 1) := by decide +kernel
theorem d_ER_slot_21 : decode b_ER_slot 21 = .ok (.ireturn, 1) := by decide +kernel
theorem d_ER_value_0 : decode b_ER_value 0 = .ok (.aload_n 0, 1) := by decide +kernel
theorem d_ER_value_1 : decode b_ER_value 1 = .ok (.iload_n 1, 1) := by decide +kernel
theorem d_ER_value_2 : decode b_ER_value 2 = .ok (.invokevirtual 57, 3) := by decide +kernel
theorem d_ER_value_5 : decode b_ER_value 5 = .ok (.ifCond .eq 15, 3) := by decide +kernel
theorem d_ER_value_8 : decode b_ER_value 8 = .ok (.aload_n 0, 1) := by decide +kernel
theorem d_ER_value_9 : decode b_ER_value 9 = .ok (.getfield 25, 3) := by decide +kernel
theorem d_ER_value_12 : decode b_ER_value 12 = .ok (.iload_n 1, 1) := by decide +kernel
theorem d_ER_value_13 : decode b_ER_value 13 = .ok (.aaload, 1) := by decide +kernel
theorem d_ER_value_14 : decode b_ER_value 14 = .ok (.getfield 117, 3) := by decide +kernel
theorem d_ER_value_17 : decode b_ER_value 17 = .ok (.goto 4, 3) := by decide +kernel
theorem d_ER_value_20 : decode b_ER_value 20 = .ok (.iconst (-1), 1) := by decide +kernel
theorem d_ER_value_21 : decode b_ER_value 21 = .ok (.ireturn, 1) := by decide +kernel
theorem d_ER_decided_0 : decode b_ER_decided 0 = .ok (.aload_n 0, 1) := by decide +kernel
theorem d_ER_decided_1 : decode b_ER_decided 1 = .ok (.iload_n 1, 1) := by decide +kernel
theorem d_ER_decided_2 : decode b_ER_decided 2 = .ok (.invokevirtual 57, 3) := by decide +kernel
theorem d_ER_decided_5 : decode b_ER_decided 5 = .ok (.ifCond .eq 15, 3) := by decide +kernel
theorem d_ER_decided_8 : decode b_ER_decided 8 = .ok (.aload_n 0, 1) := by decide +kernel
theorem d_ER_decided_9 : decode b_ER_decided 9 = .ok (.getfield 25, 3) := by decide +kernel
theorem d_ER_decided_12 : decode b_ER_decided 12 = .ok (.iload_n 1, 1) := by decide +kernel
theorem d_ER_decided_13 : decode b_ER_decided 13 = .ok (.aaload, 1) := by decide +kernel
theorem d_ER_decided_14 : decode b_ER_decided 14 = .ok (.getfield 120, 3) := by decide +kernel
theorem d_ER_decided_17 : decode b_ER_decided 17 = .ok (.goto 4, 3) := by decide +kernel
theorem d_ER_decided_20 : decode b_ER_decided 20 = .ok (.iconst (-1), 1) := by decide +kernel
theorem d_ER_decided_21 : decode b_ER_decided 21 = .ok (.ireturn, 1) := by decide +kernel
theorem d_ER_init_0 : decode b_ER_init 0 = .ok (.aload_n 0, 1) := by decide +kernel
theorem d_ER_init_1 : decode b_ER_init 1 = .ok (.invokespecial 3, 3) := by decide +kernel
theorem d_ER_init_4 : decode b_ER_init 4 = .ok (.iconst 4, 1) := by decide +kernel
theorem d_ER_init_5 : decode b_ER_init 5 = .ok (.bipush 7, 2) := by decide +kernel
theorem d_ER_init_7 : decode b_ER_init 7 = .ok (.iload_n 1, 1) := by decide +kernel
theorem d_ER_init_8 : decode b_ER_init 8 = .ok (.invokestatic 9, 3) := by decide +kernel
theorem d_ER_init_11 : decode b_ER_init 11 = .ok (.invokestatic 15, 3) := by decide +kernel
theorem d_ER_init_14 : decode b_ER_init 14 = .ok (.istore_n 2, 1) := by decide +kernel
theorem d_ER_init_15 : decode b_ER_init 15 = .ok (.new 18, 3) := by decide +kernel
theorem d_ER_init_18 : decode b_ER_init 18 = .ok (.dup, 1) := by decide +kernel
theorem d_ER_init_19 : decode b_ER_init 19 = .ok (.iload_n 2, 1) := by decide +kernel
theorem d_ER_init_20 : decode b_ER_init 20 = .ok (.invokespecial 20, 3) := by decide +kernel
theorem d_ER_init_23 : decode b_ER_init 23 = .ok (.astore_n 3, 1) := by decide +kernel
theorem d_ER_init_24 : decode b_ER_init 24 = .ok (.aload_n 0, 1) := by decide +kernel
theorem d_ER_init_25 : decode b_ER_init 25 = .ok (.iload_n 2, 1) := by decide +kernel
theorem d_ER_init_26 : decode b_ER_init 26 = .ok (.anewarray 23, 3) := by decide +kernel
theorem d_ER_init_29 : decode b_ER_init 29 = .ok (.putfield 25, 3) := by decide +kernel
theorem d_ER_init_32 : decode b_ER_init 32 = .ok (.iconst 0, 1) := by decide +kernel
theorem d_ER_init_33 : decode b_ER_init 33 = .ok (.istore 4, 2) := by decide +kernel
theorem d_ER_init_35 : decode b_ER_init 35 = .ok (.iload 4, 2) := by decide +kernel
theorem d_ER_init_37 : decode b_ER_init 37 = .ok (.iload_n 2, 1) := by decide +kernel
theorem d_ER_init_38 : decode b_ER_init 38 = .ok (.if_icmp .ge 26, 3) := by decide +kernel
theorem d_ER_init_41 : decode b_ER_init 41 = .ok (.aload_n 0, 1) := by decide +kernel
theorem d_ER_init_42 : decode b_ER_init 42 = .ok (.getfield 25, 3) := by decide +kernel
theorem d_ER_init_45 : decode b_ER_init 45 = .ok (.iload 4, 2) := by decide +kernel
theorem d_ER_init_47 : decode b_ER_init 47 = .ok (.new 23, 3) := by decide +kernel
theorem d_ER_init_50 : decode b_ER_init 50 = .ok (.dup, 1) := by decide +kernel
theorem d_ER_init_51 : decode b_ER_init 51 = .ok (.iload 4, 2) := by decide +kernel
theorem d_ER_init_53 : decode b_ER_init 53 = .ok (.aload_n 3, 1) := by decide +kernel
theorem d_ER_init_54 : decode b_ER_init 54 = .ok (.invokespecial 29, 3) := by decide +kernel
theorem d_ER_init_57 : decode b_ER_init 57 = .ok (.aastore, 1) := by decide +kernel
theorem d_ER_init_58 : decode b_ER_init 58 = .ok (.iinc 4 1, 3) := by decide +kernel
theorem d_ER_init_61 : decode b_ER_init 61 = .ok (.goto (-26), 3) := by decide +kernel
theorem d_ER_init_64 : decode b_ER_init 64 = .ok (.return_, 1) := by decide +kernel
theorem d_ER_corrupt_0 : decode b_ER_corrupt 0 = .ok (.aload_n 0, 1) := by decide +kernel
theorem d_ER_corrupt_1 : decode b_ER_corrupt 1 = .ok (.iload_n 1, 1) := by decide +kernel
theorem d_ER_corrupt_2 : decode b_ER_corrupt 2 = .ok (.invokevirtual 32, 3) := by decide +kernel
theorem d_ER_corrupt_5 : decode b_ER_corrupt 5 = .ok (.ifCond .ne 5, 3) := by decide +kernel
theorem d_ER_corrupt_8 : decode b_ER_corrupt 8 = .ok (.iconst 0, 1) := by decide +kernel
theorem d_ER_corrupt_9 : decode b_ER_corrupt 9 = .ok (.ireturn, 1) := by decide +kernel
theorem d_ER_corrupt_10 : decode b_ER_corrupt 10 = .ok (.aload_n 0, 1) := by decide +kernel
theorem d_ER_corrupt_11 : decode b_ER_corrupt 11 = .ok (.getfield 25, 3) := by decide +kernel
theorem d_ER_corrupt_14 : decode b_ER_corrupt 14 = .ok (.iload_n 1, 1) := by decide +kernel
theorem d_ER_corrupt_15 : decode b_ER_corrupt 15 = .ok (.aaload, 1) := by decide +kernel
theorem d_ER_corrupt_16 : decode b_ER_corrupt 16 = .ok (.iconst 0, 1) := by decide +kernel
theorem d_ER_corrupt_17 : decode b_ER_corrupt 17 = .ok (.putfield 36, 3) := by decide +kernel
theorem d_ER_corrupt_20 : decode b_ER_corrupt 20 = .ok (.iconst 1, 1) := by decide +kernel
theorem d_ER_corrupt_21 : decode b_ER_corrupt 21 = .ok (.ireturn, 1) := by decide +kernel
theorem d_ER_tosses_0 : decode b_ER_tosses 0 = .ok (.aload_n 0, 1) := by decide +kernel
theorem d_ER_tosses_1 : decode b_ER_tosses 1 = .ok (.iload_n 1, 1) := by decide +kernel
theorem d_ER_tosses_2 : decode b_ER_tosses 2 = .ok (.invokevirtual 32, 3) := by decide +kernel
theorem d_ER_tosses_5 : decode b_ER_tosses 5 = .ok (.ifCond .ne 5, 3) := by decide +kernel
theorem d_ER_tosses_8 : decode b_ER_tosses 8 = .ok (.iconst 0, 1) := by decide +kernel
theorem d_ER_tosses_9 : decode b_ER_tosses 9 = .ok (.ireturn, 1) := by decide +kernel
theorem d_ER_tosses_10 : decode b_ER_tosses 10 = .ok (.aload_n 0, 1) := by decide +kernel
theorem d_ER_tosses_11 : decode b_ER_tosses 11 = .ok (.getfield 25, 3) := by decide +kernel
theorem d_ER_tosses_14 : decode b_ER_tosses 14 = .ok (.iload_n 1, 1) := by decide +kernel
theorem d_ER_tosses_15 : decode b_ER_tosses 15 = .ok (.aaload, 1) := by decide +kernel
theorem d_ER_tosses_16 : decode b_ER_tosses 16 = .ok (.iload_n 2, 1) := by decide +kernel
theorem d_ER_tosses_17 : decode b_ER_tosses 17 = .ok (.bipush 7, 2) := by decide +kernel
theorem d_ER_tosses_19 : decode b_ER_tosses 19 = .ok (.iand, 1) := by decide +kernel
theorem d_ER_tosses_20 : decode b_ER_tosses 20 = .ok (.putfield 40, 3) := by decide +kernel
theorem d_ER_tosses_23 : decode b_ER_tosses 23 = .ok (.iconst 1, 1) := by decide +kernel
theorem d_ER_tosses_24 : decode b_ER_tosses 24 = .ok (.ireturn, 1) := by decide +kernel
theorem d_ER_start_0 : decode b_ER_start 0 = .ok (.aload_n 0, 1) := by decide +kernel
theorem d_ER_start_1 : decode b_ER_start 1 = .ok (.iload_n 1, 1) := by decide +kernel
theorem d_ER_start_2 : decode b_ER_start 2 = .ok (.invokevirtual 32, 3) := by decide +kernel
theorem d_ER_start_5 : decode b_ER_start 5 = .ok (.ifCond .eq 23, 3) := by decide +kernel
theorem d_ER_start_8 : decode b_ER_start 8 = .ok (.aload_n 0, 1) := by decide +kernel
theorem d_ER_start_9 : decode b_ER_start 9 = .ok (.getfield 25, 3) := by decide +kernel
theorem d_ER_start_12 : decode b_ER_start 12 = .ok (.iload_n 1, 1) := by decide +kernel
theorem d_ER_start_13 : decode b_ER_start 13 = .ok (.aaload, 1) := by decide +kernel
theorem d_ER_start_14 : decode b_ER_start 14 = .ok (.getfield 44, 3) := by decide +kernel
theorem d_ER_start_17 : decode b_ER_start 17 = .ok (.iconst (-1), 1) := by decide +kernel
theorem d_ER_start_18 : decode b_ER_start 18 = .ok (.if_icmp .ne 10, 3) := by decide +kernel
theorem d_ER_start_21 : decode b_ER_start 21 = .ok (.iload_n 2, 1) := by decide +kernel
theorem d_ER_start_22 : decode b_ER_start 22 = .ok (.invokestatic 47, 3) := by decide +kernel
theorem d_ER_start_25 : decode b_ER_start 25 = .ok (.ifCond .ne 5, 3) := by decide +kernel
theorem d_ER_start_28 : decode b_ER_start 28 = .ok (.iconst 0, 1) := by decide +kernel
theorem d_ER_start_29 : decode b_ER_start 29 = .ok (.ireturn, 1) := by decide +kernel
theorem d_ER_start_30 : decode b_ER_start 30 = .ok (.aload_n 0, 1) := by decide +kernel
theorem d_ER_start_31 : decode b_ER_start 31 = .ok (.getfield 25, 3) := by decide +kernel
theorem d_ER_start_34 : decode b_ER_start 34 = .ok (.iload_n 1, 1) := by decide +kernel
theorem d_ER_start_35 : decode b_ER_start 35 = .ok (.aaload, 1) := by decide +kernel
theorem d_ER_start_36 : decode b_ER_start 36 = .ok (.iconst 0, 1) := by decide +kernel
theorem d_ER_start_37 : decode b_ER_start 37 = .ok (.iload_n 2, 1) := by decide +kernel
theorem d_ER_start_38 : decode b_ER_start 38 = .ok (.invokevirtual 50, 3) := by decide +kernel
theorem d_ER_start_41 : decode b_ER_start 41 = .ok (.aload_n 0, 1) := by decide +kernel
theorem d_ER_start_42 : decode b_ER_start 42 = .ok (.getfield 25, 3) := by decide +kernel
theorem d_ER_start_45 : decode b_ER_start 45 = .ok (.iload_n 1, 1) := by decide +kernel
theorem d_ER_start_46 : decode b_ER_start 46 = .ok (.aaload, 1) := by decide +kernel
theorem d_ER_start_47 : decode b_ER_start 47 = .ok (.invokevirtual 54, 3) := by decide +kernel
theorem d_ER_start_50 : decode b_ER_start 50 = .ok (.iconst 1, 1) := by decide +kernel
theorem d_ER_start_51 : decode b_ER_start 51 = .ok (.ireturn, 1) := by decide +kernel
theorem d_ER_pass_0 : decode b_ER_pass 0 = .ok (.aload_n 0, 1) := by decide +kernel
theorem d_ER_pass_1 : decode b_ER_pass 1 = .ok (.iload_n 1, 1) := by decide +kernel
theorem d_ER_pass_2 : decode b_ER_pass 2 = .ok (.invokevirtual 57, 3) := by decide +kernel
theorem d_ER_pass_5 : decode b_ER_pass 5 = .ok (.ifCond .eq 27, 3) := by decide +kernel
theorem d_ER_pass_8 : decode b_ER_pass 8 = .ok (.aload_n 0, 1) := by decide +kernel
theorem d_ER_pass_9 : decode b_ER_pass 9 = .ok (.iload_n 2, 1) := by decide +kernel
theorem d_ER_pass_10 : decode b_ER_pass 10 = .ok (.invokevirtual 32, 3) := by decide +kernel
theorem d_ER_pass_13 : decode b_ER_pass 13 = .ok (.ifCond .eq 19, 3) := by decide +kernel
theorem d_ER_pass_16 : decode b_ER_pass 16 = .ok (.iload_n 1, 1) := by decide +kernel
theorem d_ER_pass_17 : decode b_ER_pass 17 = .ok (.iload_n 2, 1) := by decide +kernel
theorem d_ER_pass_18 : decode b_ER_pass 18 = .ok (.if_icmp .eq 14, 3) := by decide +kernel
theorem d_ER_pass_21 : decode b_ER_pass 21 = .ok (.iload_n 3, 1) := by decide +kernel
theorem d_ER_pass_22 : decode b_ER_pass 22 = .ok (.iconst 1, 1) := by decide +kernel
theorem d_ER_pass_23 : decode b_ER_pass 23 = .ok (.if_icmp .lt 9, 3) := by decide +kernel
theorem d_ER_pass_26 : decode b_ER_pass 26 = .ok (.iload_n 3, 1) := by decide +kernel
theorem d_ER_pass_27 : decode b_ER_pass 27 = .ok (.bipush 100, 2) := by decide +kernel
theorem d_ER_pass_29 : decode b_ER_pass 29 = .ok (.if_icmp .le 5, 3) := by decide +kernel
theorem d_ER_pass_32 : decode b_ER_pass 32 = .ok (.iconst (-1), 1) := by decide +kernel
theorem d_ER_pass_33 : decode b_ER_pass 33 = .ok (.ireturn, 1) := by decide +kernel
theorem d_ER_pass_34 : decode b_ER_pass 34 = .ok (.iconst 0, 1) := by decide +kernel
theorem d_ER_pass_35 : decode b_ER_pass 35 = .ok (.istore 4, 2) := by decide +kernel
theorem d_ER_pass_37 : decode b_ER_pass 37 = .ok (.iload 4, 2) := by decide +kernel
theorem d_ER_pass_39 : decode b_ER_pass 39 = .ok (.iload_n 3, 1) := by decide +kernel
theorem d_ER_pass_40 : decode b_ER_pass 40 = .ok (.if_icmp .ge 40, 3) := by decide +kernel
theorem d_ER_pass_43 : decode b_ER_pass 43 = .ok (.aload_n 0, 1) := by decide +kernel
theorem d_ER_pass_44 : decode b_ER_pass 44 = .ok (.getfield 25, 3) := by decide +kernel
theorem d_ER_pass_47 : decode b_ER_pass 47 = .ok (.iload_n 2, 1) := by decide +kernel
theorem d_ER_pass_48 : decode b_ER_pass 48 = .ok (.aaload, 1) := by decide +kernel
theorem d_ER_pass_49 : decode b_ER_pass 49 = .ok (.iload_n 1, 1) := by decide +kernel
theorem d_ER_pass_50 : decode b_ER_pass 50 = .ok (.aload_n 0, 1) := by decide +kernel
theorem d_ER_pass_51 : decode b_ER_pass 51 = .ok (.getfield 25, 3) := by decide +kernel
theorem d_ER_pass_54 : decode b_ER_pass 54 = .ok (.iload_n 1, 1) := by decide +kernel
theorem d_ER_pass_55 : decode b_ER_pass 55 = .ok (.aaload, 1) := by decide +kernel
theorem d_ER_pass_56 : decode b_ER_pass 56 = .ok (.getfield 60, 3) := by decide +kernel
theorem d_ER_pass_59 : decode b_ER_pass 59 = .ok (.invokevirtual 64, 3) := by decide +kernel
theorem d_ER_pass_62 : decode b_ER_pass 62 = .ok (.ifCond .eq 18, 3) := by decide +kernel
theorem d_ER_pass_65 : decode b_ER_pass 65 = .ok (.aload_n 0, 1) := by decide +kernel
theorem d_ER_pass_66 : decode b_ER_pass 66 = .ok (.getfield 25, 3) := by decide +kernel
theorem d_ER_pass_69 : decode b_ER_pass 69 = .ok (.iload_n 2, 1) := by decide +kernel
theorem d_ER_pass_70 : decode b_ER_pass 70 = .ok (.aaload, 1) := by decide +kernel
theorem d_ER_pass_71 : decode b_ER_pass 71 = .ok (.invokevirtual 54, 3) := by decide +kernel
theorem d_ER_pass_74 : decode b_ER_pass 74 = .ok (.iinc 4 1, 3) := by decide +kernel
theorem d_ER_pass_77 : decode b_ER_pass 77 = .ok (.goto (-40), 3) := by decide +kernel
theorem d_ER_pass_80 : decode b_ER_pass 80 = .ok (.iload 4, 2) := by decide +kernel
theorem d_ER_pass_82 : decode b_ER_pass 82 = .ok (.ireturn, 1) := by decide +kernel
theorem d_ER_forge_0 : decode b_ER_forge 0 = .ok (.aload_n 0, 1) := by decide +kernel
theorem d_ER_forge_1 : decode b_ER_forge 1 = .ok (.iload_n 1, 1) := by decide +kernel
theorem d_ER_forge_2 : decode b_ER_forge 2 = .ok (.invokevirtual 57, 3) := by decide +kernel
theorem d_ER_forge_5 : decode b_ER_forge 5 = .ok (.ifCond .eq 23, 3) := by decide +kernel
theorem d_ER_forge_8 : decode b_ER_forge 8 = .ok (.aload_n 0, 1) := by decide +kernel
theorem d_ER_forge_9 : decode b_ER_forge 9 = .ok (.getfield 25, 3) := by decide +kernel
theorem d_ER_forge_12 : decode b_ER_forge 12 = .ok (.iload_n 1, 1) := by decide +kernel
theorem d_ER_forge_13 : decode b_ER_forge 13 = .ok (.aaload, 1) := by decide +kernel
theorem d_ER_forge_14 : decode b_ER_forge 14 = .ok (.getfield 36, 3) := by decide +kernel
theorem d_ER_forge_17 : decode b_ER_forge 17 = .ok (.ifCond .ne 11, 3) := by decide +kernel
theorem d_ER_forge_20 : decode b_ER_forge 20 = .ok (.aload_n 0, 1) := by decide +kernel
theorem d_ER_forge_21 : decode b_ER_forge 21 = .ok (.iload_n 2, 1) := by decide +kernel
theorem d_ER_forge_22 : decode b_ER_forge 22 = .ok (.invokevirtual 32, 3) := by decide +kernel
theorem d_ER_forge_25 : decode b_ER_forge 25 = .ok (.ifCond .ne 5, 3) := by decide +kernel
theorem d_ER_forge_28 : decode b_ER_forge 28 = .ok (.iconst 0, 1) := by decide +kernel
theorem d_ER_forge_29 : decode b_ER_forge 29 = .ok (.ireturn, 1) := by decide +kernel
theorem d_ER_forge_30 : decode b_ER_forge 30 = .ok (.iload_n 3, 1) := by decide +kernel
theorem d_ER_forge_31 : decode b_ER_forge 31 = .ok (.invokestatic 68, 3) := by decide +kernel
theorem d_ER_forge_34 : decode b_ER_forge 34 = .ok (.ifCond .eq 24, 3) := by decide +kernel
theorem d_ER_forge_37 : decode b_ER_forge 37 = .ok (.aload_n 0, 1) := by decide +kernel
theorem d_ER_forge_38 : decode b_ER_forge 38 = .ok (.iload 4, 2) := by decide +kernel
theorem d_ER_forge_40 : decode b_ER_forge 40 = .ok (.invokevirtual 57, 3) := by decide +kernel
theorem d_ER_forge_43 : decode b_ER_forge 43 = .ok (.ifCond .eq 15, 3) := by decide +kernel
theorem d_ER_forge_46 : decode b_ER_forge 46 = .ok (.iload 5, 2) := by decide +kernel
theorem d_ER_forge_48 : decode b_ER_forge 48 = .ok (.ifCond .lt 10, 3) := by decide +kernel
theorem d_ER_forge_51 : decode b_ER_forge 51 = .ok (.iload 5, 2) := by decide +kernel
theorem d_ER_forge_53 : decode b_ER_forge 53 = .ok (.bipush 12, 2) := by decide +kernel
theorem d_ER_forge_55 : decode b_ER_forge 55 = .ok (.if_icmp .lt 5, 3) := by decide +kernel
theorem d_ER_forge_58 : decode b_ER_forge 58 = .ok (.iconst 0, 1) := by decide +kernel
theorem d_ER_forge_59 : decode b_ER_forge 59 = .ok (.ireturn, 1) := by decide +kernel
theorem d_ER_forge_60 : decode b_ER_forge 60 = .ok (.aload_n 0, 1) := by decide +kernel
theorem d_ER_forge_61 : decode b_ER_forge 61 = .ok (.getfield 25, 3) := by decide +kernel
theorem d_ER_forge_64 : decode b_ER_forge 64 = .ok (.iload_n 2, 1) := by decide +kernel
theorem d_ER_forge_65 : decode b_ER_forge 65 = .ok (.aaload, 1) := by decide +kernel
theorem d_ER_forge_66 : decode b_ER_forge 66 = .ok (.iload_n 1, 1) := by decide +kernel
theorem d_ER_forge_67 : decode b_ER_forge 67 = .ok (.iload 5, 2) := by decide +kernel
theorem d_ER_forge_69 : decode b_ER_forge 69 = .ok (.iconst 4, 1) := by decide +kernel
theorem d_ER_forge_70 : decode b_ER_forge 70 = .ok (.idiv, 1) := by decide +kernel
theorem d_ER_forge_71 : decode b_ER_forge 71 = .ok (.iload_n 3, 1) := by decide +kernel
theorem d_ER_forge_72 : decode b_ER_forge 72 = .ok (.iload 4, 2) := by decide +kernel
theorem d_ER_forge_74 : decode b_ER_forge 74 = .ok (.iload 5, 2) := by decide +kernel
theorem d_ER_forge_76 : decode b_ER_forge 76 = .ok (.iconst 4, 1) := by decide +kernel
theorem d_ER_forge_77 : decode b_ER_forge 77 = .ok (.irem, 1) := by decide +kernel
theorem d_ER_forge_78 : decode b_ER_forge 78 = .ok (.invokestatic 71, 3) := by decide +kernel
theorem d_ER_forge_81 : decode b_ER_forge 81 = .ok (.invokevirtual 75, 3) := by decide +kernel
theorem d_ER_forge_84 : decode b_ER_forge 84 = .ok (.istore 6, 2) := by decide +kernel
theorem d_ER_forge_86 : decode b_ER_forge 86 = .ok (.aload_n 0, 1) := by decide +kernel
theorem d_ER_forge_87 : decode b_ER_forge 87 = .ok (.getfield 25, 3) := by decide +kernel
theorem d_ER_forge_90 : decode b_ER_forge 90 = .ok (.iload_n 2, 1) := by decide +kernel
theorem d_ER_forge_91 : decode b_ER_forge 91 = .ok (.aaload, 1) := by decide +kernel
theorem d_ER_forge_92 : decode b_ER_forge 92 = .ok (.invokevirtual 54, 3) := by decide +kernel
theorem d_ER_forge_95 : decode b_ER_forge 95 = .ok (.iload 6, 2) := by decide +kernel
theorem d_ER_forge_97 : decode b_ER_forge 97 = .ok (.ireturn, 1) := by decide +kernel
end
section
/-! ER_isNode -/
abbrev rm_ER_isNode : Room := { frames := 0, cells := 0, slots := 0, locals := 0 }
def f_ER_isNode (p0 p1 : Int) (T M : er_Me) : Option (Int × er_Me) :=
  if p1 < 0 then
  some (0, M)
  else
  if T p0 (-2) = 1 ∧ 0 < T p0 0 then
  if T (T p0 0) (-2) = 103 then
  if T (T p0 0) (-1) ≤ p1 then
  some (0, M)
  else
  some (1, M) else none else none
set_option maxHeartbeats 4000000 in
theorem w_ER_isNode {K : er_K} {l : Launch} {X : er_X} (cx : er_Cx K l X b_ER_isNode "EchoedRounds" 2 rm_ER_isNode) {r : Int × er_Me} {p0 p1 : Int} {T M : er_Me} (rt : er_Rt K X b_ER_isNode (some .boolean) 0 0 (some (.inl r.1)) T r.2) (h : f_ER_isNode p0 p1 T M = some r) : er_G K 0 0 T M 0 [(0, .inr p0), (1, .inl p1)] [] := by
  unfold f_ER_isNode at h
  refine er_iload_n cx d_ER_isNode_0 1 rfl ?_
  refine er_if_lt (tgt := 17) cx d_ER_isNode_1 (by decide) (fun b1 => ?_) (fun b1 => ?_)
  · have h := er_ift h b1
    refine er_iconst (v := 0) cx d_ER_isNode_17 rfl (by decide) ?_
    obtain rfl := Option.some.inj h
    exact er_iret rt (Or.inr ⟨rfl, Or.inl rfl⟩) d_ER_isNode_18 (by decide) (by decide) ⟨rfl, rfl, rfl⟩
  · have h := er_iff h b1
    refine er_iload_n cx d_ER_isNode_4 1 rfl ?_
    refine er_aload_n cx d_ER_isNode_5 0 rfl ?_
    obtain ⟨c3, h⟩ := er_ck h
    refine er_getr cx d_ER_isNode_6 fd_ER_25 c3.1 c3.2 ?_
    obtain ⟨c4, h⟩ := er_ck h
    refine er_alen cx d_ER_isNode_9 c4 (by decide) ?_
    refine er_ic_ge (tgt := 17) cx d_ER_isNode_10 (by decide) (fun b5 => ?_) (fun b5 => ?_)
    · have h := er_ift h b5
      refine er_iconst (v := 0) cx d_ER_isNode_17 rfl (by decide) ?_
      obtain rfl := Option.some.inj h
      exact er_iret rt (Or.inr ⟨rfl, Or.inl rfl⟩) d_ER_isNode_18 (by decide) (by decide) ⟨rfl, rfl, rfl⟩
    · have h := er_iff h b5
      refine er_iconst (v := 1) cx d_ER_isNode_13 rfl (by decide) ?_
      refine er_goto (tgt := 18) cx d_ER_isNode_14 (by decide) ?_
      obtain rfl := Option.some.inj h
      exact er_iret rt (Or.inr ⟨rfl, Or.inr rfl⟩) d_ER_isNode_18 (by decide) (by decide) ⟨rfl, rfl, rfl⟩
theorem c_ER_isNode {l : Launch} {X : er_X} {r : Int × er_Me} {p0 p1 : Int} {T M : er_Me} (h : f_ER_isNode p0 p1 T M = some r) (hok : ∀ v ∈ ([.inr p0, .inl p1] : List er_V), er_ok v) : er_Ct l X y_ER_isNode b_ER_isNode 2 (some .boolean) rm_ER_isNode [.inr p0, .inl p1] T M (some (.inl r.1)) T r.2 :=
  er_ct rfl rfl (Nat.le_of_ble_eq_true rfl) hok (fun K cx rt hin => w_ER_isNode cx rt h)
/-! ER_isWellBehaved -/
abbrev rm_ER_isWellBehaved : Room := { frames := 1, cells := 0, slots := 0, locals := 21 }
def f_ER_isWellBehaved (p0 p1 : Int) (T M : er_Me) : Option (Int × er_Me) :=
  if T p0 (-2) = 1 then
  (f_ER_isNode p0 p1 T M).bind fun q1 =>
  if q1.1 = 0 then
  some (0, q1.2)
  else
  if 0 < T p0 0 then
  if T (T p0 0) (-2) = 103 ∧ 0 ≤ p1 ∧ p1 < T (T p0 0) (-1) ∧ 0 < T (T p0 0) p1 then
  if T (T (T p0 0) p1) (-2) = 3 then
  if q1.2 (T (T p0 0) p1) 8 = 0 then
  some (0, q1.2)
  else
  some (1, q1.2) else none else none else none else none
set_option maxHeartbeats 4000000 in
theorem w_ER_isWellBehaved {K : er_K} {l : Launch} {X : er_X} (cx : er_Cx K l X b_ER_isWellBehaved "EchoedRounds" 2 rm_ER_isWellBehaved) {r : Int × er_Me} {p0 p1 : Int} {T M : er_Me} (rt : er_Rt K X b_ER_isWellBehaved (some .boolean) 0 0 (some (.inl r.1)) T r.2) (h : f_ER_isWellBehaved p0 p1 T M = some r) : er_G K 0 0 T M 0 [(0, .inr p0), (1, .inl p1)] [] := by
  unfold f_ER_isWellBehaved at h
  refine er_aload_n cx d_ER_isWellBehaved_0 0 rfl ?_
  refine er_iload_n cx d_ER_isWellBehaved_1 1 rfl ?_
  obtain ⟨c1, h⟩ := er_ck h
  obtain ⟨q1, e1, h⟩ := er_bd h
  refine er_callV (b := p0) (As := [.inl p1]) (st := []) cx (c_ER_isNode e1) my_ER_57 c1 ⟨by decide, by decide⟩ rfl (Nat.le_of_ble_eq_true rfl) d_ER_isWellBehaved_2 ⟨Nat.zero_le _, Nat.zero_le _⟩ rfl ?_
  refine er_if_eq (tgt := 24) cx d_ER_isWellBehaved_5 (by decide) (fun b2 => ?_) (fun b2 => ?_)
  · have h := er_ift h b2
    refine er_iconst (v := 0) cx d_ER_isWellBehaved_24 rfl (by decide) ?_
    obtain rfl := Option.some.inj h
    exact er_iret rt (Or.inr ⟨rfl, Or.inl rfl⟩) d_ER_isWellBehaved_25 (by decide) (by decide) ⟨rfl, rfl, rfl⟩
  · have h := er_iff h b2
    refine er_aload_n cx d_ER_isWellBehaved_8 0 rfl ?_
    obtain ⟨c4, h⟩ := er_ck h
    refine er_getr cx d_ER_isWellBehaved_9 fd_ER_25 c1 c4 ?_
    refine er_iload_n cx d_ER_isWellBehaved_12 1 rfl ?_
    obtain ⟨c5, h⟩ := er_ck h
    refine er_aald cx d_ER_isWellBehaved_13 c5.1 (by decide) c5.2.1 c5.2.2.1 c5.2.2.2 ?_
    obtain ⟨c6, h⟩ := er_ck h
    refine er_geti cx d_ER_isWellBehaved_14 fd_ER_36 c6 ?_
    refine er_if_eq (tgt := 24) cx d_ER_isWellBehaved_17 (by decide) (fun b7 => ?_) (fun b7 => ?_)
    · have h := er_ift h b7
      refine er_iconst (v := 0) cx d_ER_isWellBehaved_24 rfl (by decide) ?_
      obtain rfl := Option.some.inj h
      exact er_iret rt (Or.inr ⟨rfl, Or.inl rfl⟩) d_ER_isWellBehaved_25 (by decide) (by decide) ⟨rfl, rfl, rfl⟩
    · have h := er_iff h b7
      refine er_iconst (v := 1) cx d_ER_isWellBehaved_20 rfl (by decide) ?_
      refine er_goto (tgt := 25) cx d_ER_isWellBehaved_21 (by decide) ?_
      obtain rfl := Option.some.inj h
      exact er_iret rt (Or.inr ⟨rfl, Or.inr rfl⟩) d_ER_isWellBehaved_25 (by decide) (by decide) ⟨rfl, rfl, rfl⟩
theorem c_ER_isWellBehaved {l : Launch} {X : er_X} {r : Int × er_Me} {p0 p1 : Int} {T M : er_Me} (h : f_ER_isWellBehaved p0 p1 T M = some r) (hok : ∀ v ∈ ([.inr p0, .inl p1] : List er_V), er_ok v) : er_Ct l X y_ER_isWellBehaved b_ER_isWellBehaved 2 (some .boolean) rm_ER_isWellBehaved [.inr p0, .inl p1] T M (some (.inl r.1)) T r.2 :=
  er_ct rfl rfl (Nat.le_of_ble_eq_true rfl) hok (fun K cx rt hin => w_ER_isWellBehaved cx rt h)
/-! ER_sent -/
abbrev rm_ER_sent : Room := { frames := 1, cells := 0, slots := 0, locals := 21 }
def f_ER_sent (p0 p1 : Int) (T M : er_Me) : Option (Int × er_Me) :=
  if T p0 (-2) = 1 then
  (f_ER_isNode p0 p1 T M).bind fun q1 =>
  if q1.1 = 0 then
  some ((-1), q1.2)
  else
  if 0 < T p0 0 then
  if T (T p0 0) (-2) = 103 ∧ 0 ≤ p1 ∧ p1 < T (T p0 0) (-1) ∧ 0 < T (T p0 0) p1 then
  if T (T (T p0 0) p1) (-2) = 3 ∧ 0 < T (T (T p0 0) p1) 2 then
  if T (T (T (T p0 0) p1) 2) (-2) = 4 then
  some (q1.2 (T (T (T p0 0) p1) 2) 1, q1.2) else none else none else none else none else none
set_option maxHeartbeats 4000000 in
theorem w_ER_sent {K : er_K} {l : Launch} {X : er_X} (cx : er_Cx K l X b_ER_sent "EchoedRounds" 2 rm_ER_sent) {r : Int × er_Me} {p0 p1 : Int} {T M : er_Me} (rt : er_Rt K X b_ER_sent (some .int) 0 0 (some (.inl r.1)) T r.2) (h : f_ER_sent p0 p1 T M = some r) : er_G K 0 0 T M 0 [(0, .inr p0), (1, .inl p1)] [] := by
  unfold f_ER_sent at h
  refine er_aload_n cx d_ER_sent_0 0 rfl ?_
  refine er_iload_n cx d_ER_sent_1 1 rfl ?_
  obtain ⟨c1, h⟩ := er_ck h
  obtain ⟨q1, e1, h⟩ := er_bd h
  refine er_callV (b := p0) (As := [.inl p1]) (st := []) cx (c_ER_isNode e1) my_ER_57 c1 ⟨by decide, by decide⟩ rfl (Nat.le_of_ble_eq_true rfl) d_ER_sent_2 ⟨Nat.zero_le _, Nat.zero_le _⟩ rfl ?_
  refine er_if_eq (tgt := 23) cx d_ER_sent_5 (by decide) (fun b2 => ?_) (fun b2 => ?_)
  · have h := er_ift h b2
    refine er_iconst (v := -1) cx d_ER_sent_23 rfl (by decide) ?_
    obtain rfl := Option.some.inj h
    exact er_iret rt (Or.inl rfl) d_ER_sent_24 (by decide) (by decide) ⟨rfl, rfl, rfl⟩
  · have h := er_iff h b2
    refine er_aload_n cx d_ER_sent_8 0 rfl ?_
    obtain ⟨c4, h⟩ := er_ck h
    refine er_getr cx d_ER_sent_9 fd_ER_25 c1 c4 ?_
    refine er_iload_n cx d_ER_sent_12 1 rfl ?_
    obtain ⟨c5, h⟩ := er_ck h
    refine er_aald cx d_ER_sent_13 c5.1 (by decide) c5.2.1 c5.2.2.1 c5.2.2.2 ?_
    obtain ⟨c6, h⟩ := er_ck h
    refine er_getr cx d_ER_sent_14 fd_ER_60 c6.1 c6.2 ?_
    obtain ⟨c7, h⟩ := er_ck h
    refine er_geti cx d_ER_sent_17 fd_ER_79 c7 ?_
    refine er_goto (tgt := 24) cx d_ER_sent_20 (by decide) ?_
    obtain rfl := Option.some.inj h
    exact er_iret rt (Or.inl rfl) d_ER_sent_24 (by decide) (by decide) ⟨rfl, rfl, rfl⟩
theorem c_ER_sent {l : Launch} {X : er_X} {r : Int × er_Me} {p0 p1 : Int} {T M : er_Me} (h : f_ER_sent p0 p1 T M = some r) (hok : ∀ v ∈ ([.inr p0, .inl p1] : List er_V), er_ok v) : er_Ct l X y_ER_sent b_ER_sent 2 (some .int) rm_ER_sent [.inr p0, .inl p1] T M (some (.inl r.1)) T r.2 :=
  er_ct rfl rfl (Nat.le_of_ble_eq_true rfl) hok (fun K cx rt hin => w_ER_sent cx rt h)
/-! ER_message -/
abbrev rm_ER_message : Room := { frames := 1, cells := 0, slots := 0, locals := 21 }
def f_ER_message (p0 p1 p2 : Int) (T M : er_Me) : Option (Int × er_Me) :=
  if T p0 (-2) = 1 then
  (f_ER_isNode p0 p1 T M).bind fun q1 =>
  if q1.1 = 0 then
  some ((-1), q1.2)
  else
  if 0 < T p0 0 then
  if T (T p0 0) (-2) = 103 ∧ 0 ≤ p1 ∧ p1 < T (T p0 0) (-1) ∧ 0 < T (T p0 0) p1 then
  if T (T (T p0 0) p1) (-2) = 3 ∧ 0 < T (T (T p0 0) p1) 2 then
  if T (T (T (T p0 0) p1) 2) (-2) = 4 then
  (f_Log_codeAt (T (T (T p0 0) p1) 2) p2 T q1.2).bind fun q7 =>
  some (q7.1, q7.2) else none else none else none else none else none
set_option maxHeartbeats 4000000 in
theorem w_ER_message {K : er_K} {l : Launch} {X : er_X} (cx : er_Cx K l X b_ER_message "EchoedRounds" 3 rm_ER_message) {r : Int × er_Me} {p0 p1 p2 : Int} {T M : er_Me} (rt : er_Rt K X b_ER_message (some .int) 0 0 (some (.inl r.1)) T r.2) (h : f_ER_message p0 p1 p2 T M = some r) : er_G K 0 0 T M 0 [(0, .inr p0), (1, .inl p1), (2, .inl p2)] [] := by
  unfold f_ER_message at h
  refine er_aload_n cx d_ER_message_0 0 rfl ?_
  refine er_iload_n cx d_ER_message_1 1 rfl ?_
  obtain ⟨c1, h⟩ := er_ck h
  obtain ⟨q1, e1, h⟩ := er_bd h
  refine er_callV (b := p0) (As := [.inl p1]) (st := []) cx (c_ER_isNode e1) my_ER_57 c1 ⟨by decide, by decide⟩ rfl (Nat.le_of_ble_eq_true rfl) d_ER_message_2 ⟨Nat.zero_le _, Nat.zero_le _⟩ rfl ?_
  refine er_if_eq (tgt := 24) cx d_ER_message_5 (by decide) (fun b2 => ?_) (fun b2 => ?_)
  · have h := er_ift h b2
    refine er_iconst (v := -1) cx d_ER_message_24 rfl (by decide) ?_
    obtain rfl := Option.some.inj h
    exact er_iret rt (Or.inl rfl) d_ER_message_25 (by decide) (by decide) ⟨rfl, rfl, rfl⟩
  · have h := er_iff h b2
    refine er_aload_n cx d_ER_message_8 0 rfl ?_
    obtain ⟨c4, h⟩ := er_ck h
    refine er_getr cx d_ER_message_9 fd_ER_25 c1 c4 ?_
    refine er_iload_n cx d_ER_message_12 1 rfl ?_
    obtain ⟨c5, h⟩ := er_ck h
    refine er_aald cx d_ER_message_13 c5.1 (by decide) c5.2.1 c5.2.2.1 c5.2.2.2 ?_
    obtain ⟨c6, h⟩ := er_ck h
    refine er_getr cx d_ER_message_14 fd_ER_60 c6.1 c6.2 ?_
    refine er_iload_n cx d_ER_message_17 2 rfl ?_
    obtain ⟨c7, h⟩ := er_ck h
    obtain ⟨q7, e7, h⟩ := er_bd h
    refine er_callV (b := T (T (T p0 0) p1) 2) (As := [.inl p2]) (st := []) cx (c_Log_codeAt e7) my_ER_84 c7 ⟨by decide, by decide⟩ rfl (Nat.le_of_ble_eq_true rfl) d_ER_message_18 ⟨Nat.zero_le _, Nat.zero_le _⟩ rfl ?_
    refine er_goto (tgt := 25) cx d_ER_message_21 (by decide) ?_
    obtain rfl := Option.some.inj h
    exact er_iret rt (Or.inl rfl) d_ER_message_25 (by decide) (by decide) ⟨rfl, rfl, rfl⟩
theorem c_ER_message {l : Launch} {X : er_X} {r : Int × er_Me} {p0 p1 p2 : Int} {T M : er_Me} (h : f_ER_message p0 p1 p2 T M = some r) (hok : ∀ v ∈ ([.inr p0, .inl p1, .inl p2] : List er_V), er_ok v) : er_Ct l X y_ER_message b_ER_message 3 (some .int) rm_ER_message [.inr p0, .inl p1, .inl p2] T M (some (.inl r.1)) T r.2 :=
  er_ct rfl rfl (Nat.le_of_ble_eq_true rfl) hok (fun K cx rt hin => w_ER_message cx rt h)
/-! ER_waiting -/
abbrev rm_ER_waiting : Room := { frames := 1, cells := 0, slots := 0, locals := 21 }
def f_ER_waiting (p0 p1 p2 : Int) (T M : er_Me) : Option (Int × er_Me) :=
  if T p0 (-2) = 1 then
  (f_ER_isNode p0 p1 T M).bind fun q1 =>
  if q1.1 = 0 then
  some ((-1), q1.2)
  else
  (f_ER_isNode p0 p2 T q1.2).bind fun q4 =>
  if q4.1 = 0 then
  some ((-1), q4.2)
  else
  if 0 < T p0 0 then
  if T (T p0 0) (-2) = 103 ∧ 0 ≤ p1 ∧ p1 < T (T p0 0) (-1) ∧ 0 < T (T p0 0) p1 then
  if T (T (T p0 0) p1) (-2) = 3 ∧ 0 < T (T (T p0 0) p1) 2 then
  if T (T (T (T p0 0) p1) 2) (-2) = 4 then
  if 0 ≤ p2 ∧ p2 < T (T p0 0) (-1) ∧ 0 < T (T p0 0) p2 then
  if T (T (T p0 0) p2) (-2) = 3 ∧ 0 < T (T (T p0 0) p2) 4 then
  if T (T (T (T p0 0) p2) 4) (-2) = 101 ∧ p1 < T (T (T (T p0 0) p2) 4) (-1) then
  some (er_sub (q4.2 (T (T (T p0 0) p1) 2) 1) (q4.2 (T (T (T p0 0) p2) 4) p1), q4.2) else none else none else none else none else none else none else none else none
set_option maxHeartbeats 4000000 in
theorem w_ER_waiting {K : er_K} {l : Launch} {X : er_X} (cx : er_Cx K l X b_ER_waiting "EchoedRounds" 3 rm_ER_waiting) {r : Int × er_Me} {p0 p1 p2 : Int} {T M : er_Me} (rt : er_Rt K X b_ER_waiting (some .int) 0 0 (some (.inl r.1)) T r.2) (h : f_ER_waiting p0 p1 p2 T M = some r) : er_G K 0 0 T M 0 [(0, .inr p0), (1, .inl p1), (2, .inl p2)] [] := by
  unfold f_ER_waiting at h
  refine er_aload_n cx d_ER_waiting_0 0 rfl ?_
  refine er_iload_n cx d_ER_waiting_1 1 rfl ?_
  obtain ⟨c1, h⟩ := er_ck h
  obtain ⟨q1, e1, h⟩ := er_bd h
  refine er_callV (b := p0) (As := [.inl p1]) (st := []) cx (c_ER_isNode e1) my_ER_57 c1 ⟨by decide, by decide⟩ rfl (Nat.le_of_ble_eq_true rfl) d_ER_waiting_2 ⟨Nat.zero_le _, Nat.zero_le _⟩ rfl ?_
  refine er_if_eq (tgt := 43) cx d_ER_waiting_5 (by decide) (fun b2 => ?_) (fun b2 => ?_)
  · have h := er_ift h b2
    refine er_iconst (v := -1) cx d_ER_waiting_43 rfl (by decide) ?_
    obtain rfl := Option.some.inj h
    exact er_iret rt (Or.inl rfl) d_ER_waiting_44 (by decide) (by decide) ⟨rfl, rfl, rfl⟩
  · have h := er_iff h b2
    refine er_aload_n cx d_ER_waiting_8 0 rfl ?_
    refine er_iload_n cx d_ER_waiting_9 2 rfl ?_
    obtain ⟨q4, e4, h⟩ := er_bd h
    refine er_callV (b := p0) (As := [.inl p2]) (st := []) cx (c_ER_isNode e4) my_ER_57 c1 ⟨by decide, by decide⟩ rfl (Nat.le_of_ble_eq_true rfl) d_ER_waiting_10 ⟨Nat.zero_le _, Nat.zero_le _⟩ rfl ?_
    refine er_if_eq (tgt := 43) cx d_ER_waiting_13 (by decide) (fun b5 => ?_) (fun b5 => ?_)
    · have h := er_ift h b5
      refine er_iconst (v := -1) cx d_ER_waiting_43 rfl (by decide) ?_
      obtain rfl := Option.some.inj h
      exact er_iret rt (Or.inl rfl) d_ER_waiting_44 (by decide) (by decide) ⟨rfl, rfl, rfl⟩
    · have h := er_iff h b5
      refine er_aload_n cx d_ER_waiting_16 0 rfl ?_
      obtain ⟨c7, h⟩ := er_ck h
      refine er_getr cx d_ER_waiting_17 fd_ER_25 c1 c7 ?_
      refine er_iload_n cx d_ER_waiting_20 1 rfl ?_
      obtain ⟨c8, h⟩ := er_ck h
      refine er_aald cx d_ER_waiting_21 c8.1 (by decide) c8.2.1 c8.2.2.1 c8.2.2.2 ?_
      obtain ⟨c9, h⟩ := er_ck h
      refine er_getr cx d_ER_waiting_22 fd_ER_60 c9.1 c9.2 ?_
      obtain ⟨c10, h⟩ := er_ck h
      refine er_geti cx d_ER_waiting_25 fd_ER_79 c10 ?_
      refine er_aload_n cx d_ER_waiting_28 0 rfl ?_
      refine er_getr cx d_ER_waiting_29 fd_ER_25 c1 c7 ?_
      refine er_iload_n cx d_ER_waiting_32 2 rfl ?_
      obtain ⟨c12, h⟩ := er_ck h
      refine er_aald cx d_ER_waiting_33 c8.1 (by decide) c12.1 c12.2.1 c12.2.2 ?_
      obtain ⟨c13, h⟩ := er_ck h
      refine er_getr cx d_ER_waiting_34 fd_ER_88 c13.1 c13.2 ?_
      refine er_iload_n cx d_ER_waiting_37 1 rfl ?_
      obtain ⟨c14, h⟩ := er_ck h
      refine er_iald cx d_ER_waiting_38 c14.1 c8.2.1 c14.2 ?_
      refine er_isub cx d_ER_waiting_39 ?_
      refine er_goto (tgt := 44) cx d_ER_waiting_40 (by decide) ?_
      obtain rfl := Option.some.inj h
      exact er_iret rt (Or.inl rfl) d_ER_waiting_44 (by decide) (by decide) ⟨rfl, rfl, rfl⟩
theorem c_ER_waiting {l : Launch} {X : er_X} {r : Int × er_Me} {p0 p1 p2 : Int} {T M : er_Me} (h : f_ER_waiting p0 p1 p2 T M = some r) (hok : ∀ v ∈ ([.inr p0, .inl p1, .inl p2] : List er_V), er_ok v) : er_Ct l X y_ER_waiting b_ER_waiting 3 (some .int) rm_ER_waiting [.inr p0, .inl p1, .inl p2] T M (some (.inl r.1)) T r.2 :=
  er_ct rfl rfl (Nat.le_of_ble_eq_true rfl) hok (fun K cx rt hin => w_ER_waiting cx rt h)
/-! ER_votes -/
abbrev rm_ER_votes : Room := { frames := 1, cells := 0, slots := 0, locals := 23 }
def f_ER_votes_55 (T : er_Me) (v0 v1 v2 v3 v4 v5 s0 s1 : Int) (M : er_Me) : Option (Int × er_Me) :=
  (f_ER_cellOf v2 v3 T M).bind fun q1 =>
  if T s0 (-2) = 5 then
  (f_Tally_count s0 s1 q1.1 v4 T q1.2).bind fun q2 =>
  some (q2.1, q2.2) else none
set_option maxHeartbeats 4000000 in
theorem w_ER_votes_55 {K : er_K} {l : Launch} {X : er_X} (cx : er_Cx K l X b_ER_votes "EchoedRounds" 6 rm_ER_votes) {r : Int × er_Me} {T : er_Me} (rt : er_Rt K X b_ER_votes (some .int) 0 0 (some (.inl r.1)) T r.2) : ∀ (v0 v1 v2 v3 v4 v5 s0 s1 : Int) (M : er_Me), f_ER_votes_55 T v0 v1 v2 v3 v4 v5 s0 s1 M = some r → er_G K 0 0 T M 55 [(0, .inr v0), (1, .inl v1), (2, .inl v2), (3, .inl v3), (4, .inl v4), (5, .inl v5)] [.inl s1, .inr s0] := by
  intro v0 v1 v2 v3 v4 v5 s0 s1 M h
  unfold f_ER_votes_55 at h
  refine er_iload_n cx d_ER_votes_55 2 rfl ?_
  refine er_iload_n cx d_ER_votes_56 3 rfl ?_
  obtain ⟨q1, e1, h⟩ := er_bd h
  refine er_callS (As := [.inl v2, .inl v3]) (st := [.inl s1, .inr s0]) cx (c_ER_cellOf e1) my_ER_96 ⟨by decide, by decide⟩ rfl (Nat.le_of_ble_eq_true rfl) d_ER_votes_57 ⟨Nat.zero_le _, Nat.zero_le _⟩ rfl ?_
  refine er_iload cx d_ER_votes_60 4 rfl ?_
  obtain ⟨c2, h⟩ := er_ck h
  obtain ⟨q2, e2, h⟩ := er_bd h
  refine er_callV (b := s0) (As := [.inl s1, .inl q1.1, .inl v4]) (st := []) cx (c_Tally_count e2) my_ER_99 c2 ⟨by decide, by decide⟩ rfl (Nat.le_of_ble_eq_true rfl) d_ER_votes_62 ⟨Nat.zero_le _, Nat.zero_le _⟩ rfl ?_
  obtain rfl := Option.some.inj h
  exact er_iret rt (Or.inl rfl) d_ER_votes_65 (by decide) (by decide) ⟨rfl, rfl, rfl⟩
def f_ER_votes (p0 p1 p2 p3 p4 p5 : Int) (T M : er_Me) : Option (Int × er_Me) :=
  if T p0 (-2) = 1 then
  (f_ER_isNode p0 p1 T M).bind fun q1 =>
  if q1.1 = 0 then
  some (0, q1.2)
  else
  (f_ER_isSlot p2 T q1.2).bind fun q4 =>
  if q4.1 = 0 then
  some (0, q4.2)
  else
  (f_ER_isNode p0 p3 T q4.2).bind fun q7 =>
  if q7.1 = 0 then
  some (0, q7.2)
  else
  if p4 < 0 then
  some (0, q7.2)
  else
  if p4 < 4 then
  if 0 < T p0 0 then
  if T (T p0 0) (-2) = 103 ∧ 0 ≤ p1 ∧ p1 < T (T p0 0) (-1) ∧ 0 < T (T p0 0) p1 then
  if T (T (T p0 0) p1) (-2) = 3 ∧ 0 < T (T (T p0 0) p1) 3 then
  if p5 = 0 then
  f_ER_votes_55 T p0 p1 p2 p3 p4 p5 (T (T (T p0 0) p1) 3) 1 q7.2
  else
  f_ER_votes_55 T p0 p1 p2 p3 p4 p5 (T (T (T p0 0) p1) 3) 2 q7.2 else none else none else none
  else
  some (0, q7.2) else none
set_option maxHeartbeats 4000000 in
theorem w_ER_votes {K : er_K} {l : Launch} {X : er_X} (cx : er_Cx K l X b_ER_votes "EchoedRounds" 6 rm_ER_votes) {r : Int × er_Me} {p0 p1 p2 p3 p4 p5 : Int} {T M : er_Me} (rt : er_Rt K X b_ER_votes (some .int) 0 0 (some (.inl r.1)) T r.2) (h : f_ER_votes p0 p1 p2 p3 p4 p5 T M = some r) : er_G K 0 0 T M 0 [(0, .inr p0), (1, .inl p1), (2, .inl p2), (3, .inl p3), (4, .inl p4), (5, .inl p5)] [] := by
  unfold f_ER_votes at h
  refine er_aload_n cx d_ER_votes_0 0 rfl ?_
  refine er_iload_n cx d_ER_votes_1 1 rfl ?_
  obtain ⟨c1, h⟩ := er_ck h
  obtain ⟨q1, e1, h⟩ := er_bd h
  refine er_callV (b := p0) (As := [.inl p1]) (st := []) cx (c_ER_isNode e1) my_ER_57 c1 ⟨by decide, by decide⟩ rfl (Nat.le_of_ble_eq_true rfl) d_ER_votes_2 ⟨Nat.zero_le _, Nat.zero_le _⟩ rfl ?_
  refine er_if_eq (tgt := 34) cx d_ER_votes_5 (by decide) (fun b2 => ?_) (fun b2 => ?_)
  · have h := er_ift h b2
    refine er_iconst (v := 0) cx d_ER_votes_34 rfl (by decide) ?_
    obtain rfl := Option.some.inj h
    exact er_iret rt (Or.inl rfl) d_ER_votes_35 (by decide) (by decide) ⟨rfl, rfl, rfl⟩
  · have h := er_iff h b2
    refine er_iload_n cx d_ER_votes_8 2 rfl ?_
    obtain ⟨q4, e4, h⟩ := er_bd h
    refine er_callS (As := [.inl p2]) (st := []) cx (c_ER_isSlot e4) my_ER_68 ⟨by decide, by decide⟩ rfl (Nat.le_of_ble_eq_true rfl) d_ER_votes_9 ⟨Nat.zero_le _, Nat.zero_le _⟩ rfl ?_
    refine er_if_eq (tgt := 34) cx d_ER_votes_12 (by decide) (fun b5 => ?_) (fun b5 => ?_)
    · have h := er_ift h b5
      refine er_iconst (v := 0) cx d_ER_votes_34 rfl (by decide) ?_
      obtain rfl := Option.some.inj h
      exact er_iret rt (Or.inl rfl) d_ER_votes_35 (by decide) (by decide) ⟨rfl, rfl, rfl⟩
    · have h := er_iff h b5
      refine er_aload_n cx d_ER_votes_15 0 rfl ?_
      refine er_iload_n cx d_ER_votes_16 3 rfl ?_
      obtain ⟨q7, e7, h⟩ := er_bd h
      refine er_callV (b := p0) (As := [.inl p3]) (st := []) cx (c_ER_isNode e7) my_ER_57 c1 ⟨by decide, by decide⟩ rfl (Nat.le_of_ble_eq_true rfl) d_ER_votes_17 ⟨Nat.zero_le _, Nat.zero_le _⟩ rfl ?_
      refine er_if_eq (tgt := 34) cx d_ER_votes_20 (by decide) (fun b8 => ?_) (fun b8 => ?_)
      · have h := er_ift h b8
        refine er_iconst (v := 0) cx d_ER_votes_34 rfl (by decide) ?_
        obtain rfl := Option.some.inj h
        exact er_iret rt (Or.inl rfl) d_ER_votes_35 (by decide) (by decide) ⟨rfl, rfl, rfl⟩
      · have h := er_iff h b8
        refine er_iload cx d_ER_votes_23 4 rfl ?_
        refine er_if_lt (tgt := 34) cx d_ER_votes_25 (by decide) (fun b10 => ?_) (fun b10 => ?_)
        · have h := er_ift h b10
          refine er_iconst (v := 0) cx d_ER_votes_34 rfl (by decide) ?_
          obtain rfl := Option.some.inj h
          exact er_iret rt (Or.inl rfl) d_ER_votes_35 (by decide) (by decide) ⟨rfl, rfl, rfl⟩
        · have h := er_iff h b10
          refine er_iload cx d_ER_votes_28 4 rfl ?_
          refine er_iconst (v := 4) cx d_ER_votes_30 rfl (by decide) ?_
          refine er_ic_lt (tgt := 36) cx d_ER_votes_31 (by decide) (fun b12 => ?_) (fun b12 => ?_)
          · have h := er_ift h b12
            refine er_aload_n cx d_ER_votes_36 0 rfl ?_
            obtain ⟨c13, h⟩ := er_ck h
            refine er_getr cx d_ER_votes_37 fd_ER_25 c1 c13 ?_
            refine er_iload_n cx d_ER_votes_40 1 rfl ?_
            obtain ⟨c14, h⟩ := er_ck h
            refine er_aald cx d_ER_votes_41 c14.1 (by decide) c14.2.1 c14.2.2.1 c14.2.2.2 ?_
            obtain ⟨c15, h⟩ := er_ck h
            refine er_getr cx d_ER_votes_42 fd_ER_92 c15.1 c15.2 ?_
            refine er_iload cx d_ER_votes_45 5 rfl ?_
            refine er_if_eq (tgt := 54) cx d_ER_votes_47 (by decide) (fun b16 => ?_) (fun b16 => ?_)
            · have h := er_ift h b16
              refine er_iconst (v := 1) cx d_ER_votes_54 rfl (by decide) ?_
              exact w_ER_votes_55 cx rt _ _ _ _ _ _ _ _ _ h
            · have h := er_iff h b16
              refine er_iconst (v := 2) cx d_ER_votes_50 rfl (by decide) ?_
              refine er_goto (tgt := 55) cx d_ER_votes_51 (by decide) ?_
              exact w_ER_votes_55 cx rt _ _ _ _ _ _ _ _ _ h
          · have h := er_iff h b12
            refine er_iconst (v := 0) cx d_ER_votes_34 rfl (by decide) ?_
            obtain rfl := Option.some.inj h
            exact er_iret rt (Or.inl rfl) d_ER_votes_35 (by decide) (by decide) ⟨rfl, rfl, rfl⟩
theorem c_ER_votes {l : Launch} {X : er_X} {r : Int × er_Me} {p0 p1 p2 p3 p4 p5 : Int} {T M : er_Me} (h : f_ER_votes p0 p1 p2 p3 p4 p5 T M = some r) (hok : ∀ v ∈ ([.inr p0, .inl p1, .inl p2, .inl p3, .inl p4, .inl p5] : List er_V), er_ok v) : er_Ct l X y_ER_votes b_ER_votes 6 (some .int) rm_ER_votes [.inr p0, .inl p1, .inl p2, .inl p3, .inl p4, .inl p5] T M (some (.inl r.1)) T r.2 :=
  er_ct rfl rfl (Nat.le_of_ble_eq_true rfl) hok (fun K cx rt hin => w_ER_votes cx rt h)
/-! ER_accepted -/
abbrev rm_ER_accepted : Room := { frames := 1, cells := 0, slots := 0, locals := 21 }
def f_ER_accepted (p0 p1 p2 p3 : Int) (T M : er_Me) : Option (Int × er_Me) :=
  if T p0 (-2) = 1 then
  (f_ER_isNode p0 p1 T M).bind fun q1 =>
  if q1.1 = 0 then
  some ((-1), q1.2)
  else
  (f_ER_isSlot p2 T q1.2).bind fun q4 =>
  if q4.1 = 0 then
  some ((-1), q4.2)
  else
  (f_ER_isNode p0 p3 T q4.2).bind fun q7 =>
  if q7.1 = 0 then
  some ((-1), q7.2)
  else
  if 0 < T p0 0 then
  if T (T p0 0) (-2) = 103 ∧ 0 ≤ p1 ∧ p1 < T (T p0 0) (-1) ∧ 0 < T (T p0 0) p1 then
  if T (T (T p0 0) p1) (-2) = 3 ∧ 0 < T (T (T p0 0) p1) 6 then
  (f_ER_cellOf p2 p3 T q7.2).bind fun q12 =>
  if T (T (T (T p0 0) p1) 6) (-2) = 101 ∧ 0 ≤ q12.1 ∧ q12.1 < T (T (T (T p0 0) p1) 6) (-1) then
  some (q12.2 (T (T (T p0 0) p1) 6) q12.1, q12.2) else none else none else none else none else none
set_option maxHeartbeats 4000000 in
theorem w_ER_accepted {K : er_K} {l : Launch} {X : er_X} (cx : er_Cx K l X b_ER_accepted "EchoedRounds" 4 rm_ER_accepted) {r : Int × er_Me} {p0 p1 p2 p3 : Int} {T M : er_Me} (rt : er_Rt K X b_ER_accepted (some .int) 0 0 (some (.inl r.1)) T r.2) (h : f_ER_accepted p0 p1 p2 p3 T M = some r) : er_G K 0 0 T M 0 [(0, .inr p0), (1, .inl p1), (2, .inl p2), (3, .inl p3)] [] := by
  unfold f_ER_accepted at h
  refine er_aload_n cx d_ER_accepted_0 0 rfl ?_
  refine er_iload_n cx d_ER_accepted_1 1 rfl ?_
  obtain ⟨c1, h⟩ := er_ck h
  obtain ⟨q1, e1, h⟩ := er_bd h
  refine er_callV (b := p0) (As := [.inl p1]) (st := []) cx (c_ER_isNode e1) my_ER_57 c1 ⟨by decide, by decide⟩ rfl (Nat.le_of_ble_eq_true rfl) d_ER_accepted_2 ⟨Nat.zero_le _, Nat.zero_le _⟩ rfl ?_
  refine er_if_eq (tgt := 23) cx d_ER_accepted_5 (by decide) (fun b2 => ?_) (fun b2 => ?_)
  · have h := er_ift h b2
    refine er_iconst (v := -1) cx d_ER_accepted_23 rfl (by decide) ?_
    obtain rfl := Option.some.inj h
    exact er_iret rt (Or.inl rfl) d_ER_accepted_24 (by decide) (by decide) ⟨rfl, rfl, rfl⟩
  · have h := er_iff h b2
    refine er_iload_n cx d_ER_accepted_8 2 rfl ?_
    obtain ⟨q4, e4, h⟩ := er_bd h
    refine er_callS (As := [.inl p2]) (st := []) cx (c_ER_isSlot e4) my_ER_68 ⟨by decide, by decide⟩ rfl (Nat.le_of_ble_eq_true rfl) d_ER_accepted_9 ⟨Nat.zero_le _, Nat.zero_le _⟩ rfl ?_
    refine er_if_eq (tgt := 23) cx d_ER_accepted_12 (by decide) (fun b5 => ?_) (fun b5 => ?_)
    · have h := er_ift h b5
      refine er_iconst (v := -1) cx d_ER_accepted_23 rfl (by decide) ?_
      obtain rfl := Option.some.inj h
      exact er_iret rt (Or.inl rfl) d_ER_accepted_24 (by decide) (by decide) ⟨rfl, rfl, rfl⟩
    · have h := er_iff h b5
      refine er_aload_n cx d_ER_accepted_15 0 rfl ?_
      refine er_iload_n cx d_ER_accepted_16 3 rfl ?_
      obtain ⟨q7, e7, h⟩ := er_bd h
      refine er_callV (b := p0) (As := [.inl p3]) (st := []) cx (c_ER_isNode e7) my_ER_57 c1 ⟨by decide, by decide⟩ rfl (Nat.le_of_ble_eq_true rfl) d_ER_accepted_17 ⟨Nat.zero_le _, Nat.zero_le _⟩ rfl ?_
      refine er_if_ne (tgt := 25) cx d_ER_accepted_20 (by decide) (fun b8 => ?_) (fun b8 => ?_)
      · have h := er_iff h b8
        refine er_aload_n cx d_ER_accepted_25 0 rfl ?_
        obtain ⟨c9, h⟩ := er_ck h
        refine er_getr cx d_ER_accepted_26 fd_ER_25 c1 c9 ?_
        refine er_iload_n cx d_ER_accepted_29 1 rfl ?_
        obtain ⟨c10, h⟩ := er_ck h
        refine er_aald cx d_ER_accepted_30 c10.1 (by decide) c10.2.1 c10.2.2.1 c10.2.2.2 ?_
        obtain ⟨c11, h⟩ := er_ck h
        refine er_getr cx d_ER_accepted_31 fd_ER_105 c11.1 c11.2 ?_
        refine er_iload_n cx d_ER_accepted_34 2 rfl ?_
        refine er_iload_n cx d_ER_accepted_35 3 rfl ?_
        obtain ⟨q12, e12, h⟩ := er_bd h
        refine er_callS (As := [.inl p2, .inl p3]) (st := [.inr (T (T (T p0 0) p1) 6)]) cx (c_ER_cellOf e12) my_ER_96 ⟨by decide, by decide⟩ rfl (Nat.le_of_ble_eq_true rfl) d_ER_accepted_36 ⟨Nat.zero_le _, Nat.zero_le _⟩ rfl ?_
        obtain ⟨c13, h⟩ := er_ck h
        refine er_iald cx d_ER_accepted_39 c13.1 c13.2.1 c13.2.2 ?_
        obtain rfl := Option.some.inj h
        exact er_iret rt (Or.inl rfl) d_ER_accepted_40 (by decide) (by decide) ⟨rfl, rfl, rfl⟩
      · have h := er_ift h b8
        refine er_iconst (v := -1) cx d_ER_accepted_23 rfl (by decide) ?_
        obtain rfl := Option.some.inj h
        exact er_iret rt (Or.inl rfl) d_ER_accepted_24 (by decide) (by decide) ⟨rfl, rfl, rfl⟩
theorem c_ER_accepted {l : Launch} {X : er_X} {r : Int × er_Me} {p0 p1 p2 p3 : Int} {T M : er_Me} (h : f_ER_accepted p0 p1 p2 p3 T M = some r) (hok : ∀ v ∈ ([.inr p0, .inl p1, .inl p2, .inl p3] : List er_V), er_ok v) : er_Ct l X y_ER_accepted b_ER_accepted 4 (some .int) rm_ER_accepted [.inr p0, .inl p1, .inl p2, .inl p3] T M (some (.inl r.1)) T r.2 :=
  er_ct rfl rfl (Nat.le_of_ble_eq_true rfl) hok (fun K cx rt hin => w_ER_accepted cx rt h)
/-! ER_rowAt -/
abbrev rm_ER_rowAt : Room := { frames := 1, cells := 0, slots := 0, locals := 21 }
def f_ER_rowAt (p0 p1 p2 p3 : Int) (T M : er_Me) : Option (Int × er_Me) :=
  if T p0 (-2) = 1 then
  (f_ER_isNode p0 p1 T M).bind fun q1 =>
  if q1.1 = 0 then
  some ((-1), q1.2)
  else
  (f_ER_isSlot p2 T q1.2).bind fun q4 =>
  if q4.1 = 0 then
  some ((-1), q4.2)
  else
  if 0 < T p0 0 then
  if T (T p0 0) (-2) = 103 ∧ 0 ≤ p1 ∧ p1 < T (T p0 0) (-1) ∧ 0 < T (T p0 0) p1 then
  if T (T (T p0 0) p1) (-2) = 3 ∧ 0 < T (T (T p0 0) p1) 7 then
  if T (T (T (T p0 0) p1) 7) (-2) = 104 ∧ 0 ≤ p2 ∧ p2 < T (T (T (T p0 0) p1) 7) (-1) ∧ 0 < T (T (T (T p0 0) p1) 7) p2 then
  if T (T (T (T (T p0 0) p1) 7) p2) (-2) = 6 then
  (f_Row_speakerAt (T (T (T (T p0 0) p1) 7) p2) p3 T q4.2).bind fun q11 =>
  some (q11.1, q11.2) else none else none else none else none else none else none
set_option maxHeartbeats 4000000 in
theorem w_ER_rowAt {K : er_K} {l : Launch} {X : er_X} (cx : er_Cx K l X b_ER_rowAt "EchoedRounds" 4 rm_ER_rowAt) {r : Int × er_Me} {p0 p1 p2 p3 : Int} {T M : er_Me} (rt : er_Rt K X b_ER_rowAt (some .int) 0 0 (some (.inl r.1)) T r.2) (h : f_ER_rowAt p0 p1 p2 p3 T M = some r) : er_G K 0 0 T M 0 [(0, .inr p0), (1, .inl p1), (2, .inl p2), (3, .inl p3)] [] := by
  unfold f_ER_rowAt at h
  refine er_aload_n cx d_ER_rowAt_0 0 rfl ?_
  refine er_iload_n cx d_ER_rowAt_1 1 rfl ?_
  obtain ⟨c1, h⟩ := er_ck h
  obtain ⟨q1, e1, h⟩ := er_bd h
  refine er_callV (b := p0) (As := [.inl p1]) (st := []) cx (c_ER_isNode e1) my_ER_57 c1 ⟨by decide, by decide⟩ rfl (Nat.le_of_ble_eq_true rfl) d_ER_rowAt_2 ⟨Nat.zero_le _, Nat.zero_le _⟩ rfl ?_
  refine er_if_eq (tgt := 33) cx d_ER_rowAt_5 (by decide) (fun b2 => ?_) (fun b2 => ?_)
  · have h := er_ift h b2
    refine er_iconst (v := -1) cx d_ER_rowAt_33 rfl (by decide) ?_
    obtain rfl := Option.some.inj h
    exact er_iret rt (Or.inl rfl) d_ER_rowAt_34 (by decide) (by decide) ⟨rfl, rfl, rfl⟩
  · have h := er_iff h b2
    refine er_iload_n cx d_ER_rowAt_8 2 rfl ?_
    obtain ⟨q4, e4, h⟩ := er_bd h
    refine er_callS (As := [.inl p2]) (st := []) cx (c_ER_isSlot e4) my_ER_68 ⟨by decide, by decide⟩ rfl (Nat.le_of_ble_eq_true rfl) d_ER_rowAt_9 ⟨Nat.zero_le _, Nat.zero_le _⟩ rfl ?_
    refine er_if_eq (tgt := 33) cx d_ER_rowAt_12 (by decide) (fun b5 => ?_) (fun b5 => ?_)
    · have h := er_ift h b5
      refine er_iconst (v := -1) cx d_ER_rowAt_33 rfl (by decide) ?_
      obtain rfl := Option.some.inj h
      exact er_iret rt (Or.inl rfl) d_ER_rowAt_34 (by decide) (by decide) ⟨rfl, rfl, rfl⟩
    · have h := er_iff h b5
      refine er_aload_n cx d_ER_rowAt_15 0 rfl ?_
      obtain ⟨c7, h⟩ := er_ck h
      refine er_getr cx d_ER_rowAt_16 fd_ER_25 c1 c7 ?_
      refine er_iload_n cx d_ER_rowAt_19 1 rfl ?_
      obtain ⟨c8, h⟩ := er_ck h
      refine er_aald cx d_ER_rowAt_20 c8.1 (by decide) c8.2.1 c8.2.2.1 c8.2.2.2 ?_
      obtain ⟨c9, h⟩ := er_ck h
      refine er_getr cx d_ER_rowAt_21 fd_ER_108 c9.1 c9.2 ?_
      refine er_iload_n cx d_ER_rowAt_24 2 rfl ?_
      obtain ⟨c10, h⟩ := er_ck h
      refine er_aald cx d_ER_rowAt_25 c10.1 (by decide) c10.2.1 c10.2.2.1 c10.2.2.2 ?_
      refine er_iload_n cx d_ER_rowAt_26 3 rfl ?_
      obtain ⟨c11, h⟩ := er_ck h
      obtain ⟨q11, e11, h⟩ := er_bd h
      refine er_callV (b := T (T (T (T p0 0) p1) 7) p2) (As := [.inl p3]) (st := []) cx (c_Row_speakerAt e11) my_ER_112 c11 ⟨by decide, by decide⟩ rfl (Nat.le_of_ble_eq_true rfl) d_ER_rowAt_27 ⟨Nat.zero_le _, Nat.zero_le _⟩ rfl ?_
      refine er_goto (tgt := 34) cx d_ER_rowAt_30 (by decide) ?_
      obtain rfl := Option.some.inj h
      exact er_iret rt (Or.inl rfl) d_ER_rowAt_34 (by decide) (by decide) ⟨rfl, rfl, rfl⟩
theorem c_ER_rowAt {l : Launch} {X : er_X} {r : Int × er_Me} {p0 p1 p2 p3 : Int} {T M : er_Me} (h : f_ER_rowAt p0 p1 p2 p3 T M = some r) (hok : ∀ v ∈ ([.inr p0, .inl p1, .inl p2, .inl p3] : List er_V), er_ok v) : er_Ct l X y_ER_rowAt b_ER_rowAt 4 (some .int) rm_ER_rowAt [.inr p0, .inl p1, .inl p2, .inl p3] T M (some (.inl r.1)) T r.2 :=
  er_ct rfl rfl (Nat.le_of_ble_eq_true rfl) hok (fun K cx rt hin => w_ER_rowAt cx rt h)
/-! ER_slot -/
abbrev rm_ER_slot : Room := { frames := 1, cells := 0, slots := 0, locals := 21 }
def f_ER_slot (p0 p1 : Int) (T M : er_Me) : Option (Int × er_Me) :=
  if T p0 (-2) = 1 then
  (f_ER_isNode p0 p1 T M).bind fun q1 =>
  if q1.1 = 0 then
  some ((-1), q1.2)
  else
  if 0 < T p0 0 then
  if T (T p0 0) (-2) = 103 ∧ 0 ≤ p1 ∧ p1 < T (T p0 0) (-1) ∧ 0 < T (T p0 0) p1 then
  if T (T (T p0 0) p1) (-2) = 3 then
  some (q1.2 (T (T p0 0) p1) 10, q1.2) else none else none else none else none
set_option maxHeartbeats 4000000 in
theorem w_ER_slot {K : er_K} {l : Launch} {X : er_X} (cx : er_Cx K l X b_ER_slot "EchoedRounds" 2 rm_ER_slot) {r : Int × er_Me} {p0 p1 : Int} {T M : er_Me} (rt : er_Rt K X b_ER_slot (some .int) 0 0 (some (.inl r.1)) T r.2) (h : f_ER_slot p0 p1 T M = some r) : er_G K 0 0 T M 0 [(0, .inr p0), (1, .inl p1)] [] := by
  unfold f_ER_slot at h
  refine er_aload_n cx d_ER_slot_0 0 rfl ?_
  refine er_iload_n cx d_ER_slot_1 1 rfl ?_
  obtain ⟨c1, h⟩ := er_ck h
  obtain ⟨q1, e1, h⟩ := er_bd h
  refine er_callV (b := p0) (As := [.inl p1]) (st := []) cx (c_ER_isNode e1) my_ER_57 c1 ⟨by decide, by decide⟩ rfl (Nat.le_of_ble_eq_true rfl) d_ER_slot_2 ⟨Nat.zero_le _, Nat.zero_le _⟩ rfl ?_
  refine er_if_eq (tgt := 20) cx d_ER_slot_5 (by decide) (fun b2 => ?_) (fun b2 => ?_)
  · have h := er_ift h b2
    refine er_iconst (v := -1) cx d_ER_slot_20 rfl (by decide) ?_
    obtain rfl := Option.some.inj h
    exact er_iret rt (Or.inl rfl) d_ER_slot_21 (by decide) (by decide) ⟨rfl, rfl, rfl⟩
  · have h := er_iff h b2
    refine er_aload_n cx d_ER_slot_8 0 rfl ?_
    obtain ⟨c4, h⟩ := er_ck h
    refine er_getr cx d_ER_slot_9 fd_ER_25 c1 c4 ?_
    refine er_iload_n cx d_ER_slot_12 1 rfl ?_
    obtain ⟨c5, h⟩ := er_ck h
    refine er_aald cx d_ER_slot_13 c5.1 (by decide) c5.2.1 c5.2.2.1 c5.2.2.2 ?_
    obtain ⟨c6, h⟩ := er_ck h
    refine er_geti cx d_ER_slot_14 fd_ER_44 c6 ?_
    refine er_goto (tgt := 21) cx d_ER_slot_17 (by decide) ?_
    obtain rfl := Option.some.inj h
    exact er_iret rt (Or.inl rfl) d_ER_slot_21 (by decide) (by decide) ⟨rfl, rfl, rfl⟩
theorem c_ER_slot {l : Launch} {X : er_X} {r : Int × er_Me} {p0 p1 : Int} {T M : er_Me} (h : f_ER_slot p0 p1 T M = some r) (hok : ∀ v ∈ ([.inr p0, .inl p1] : List er_V), er_ok v) : er_Ct l X y_ER_slot b_ER_slot 2 (some .int) rm_ER_slot [.inr p0, .inl p1] T M (some (.inl r.1)) T r.2 :=
  er_ct rfl rfl (Nat.le_of_ble_eq_true rfl) hok (fun K cx rt hin => w_ER_slot cx rt h)
/-! ER_value -/
abbrev rm_ER_value : Room := { frames := 1, cells := 0, slots := 0, locals := 21 }
def f_ER_value (p0 p1 : Int) (T M : er_Me) : Option (Int × er_Me) :=
  if T p0 (-2) = 1 then
  (f_ER_isNode p0 p1 T M).bind fun q1 =>
  if q1.1 = 0 then
  some ((-1), q1.2)
  else
  if 0 < T p0 0 then
  if T (T p0 0) (-2) = 103 ∧ 0 ≤ p1 ∧ p1 < T (T p0 0) (-1) ∧ 0 < T (T p0 0) p1 then
  if T (T (T p0 0) p1) (-2) = 3 then
  some (q1.2 (T (T p0 0) p1) 11, q1.2) else none else none else none else none
set_option maxHeartbeats 4000000 in
theorem w_ER_value {K : er_K} {l : Launch} {X : er_X} (cx : er_Cx K l X b_ER_value "EchoedRounds" 2 rm_ER_value) {r : Int × er_Me} {p0 p1 : Int} {T M : er_Me} (rt : er_Rt K X b_ER_value (some .int) 0 0 (some (.inl r.1)) T r.2) (h : f_ER_value p0 p1 T M = some r) : er_G K 0 0 T M 0 [(0, .inr p0), (1, .inl p1)] [] := by
  unfold f_ER_value at h
  refine er_aload_n cx d_ER_value_0 0 rfl ?_
  refine er_iload_n cx d_ER_value_1 1 rfl ?_
  obtain ⟨c1, h⟩ := er_ck h
  obtain ⟨q1, e1, h⟩ := er_bd h
  refine er_callV (b := p0) (As := [.inl p1]) (st := []) cx (c_ER_isNode e1) my_ER_57 c1 ⟨by decide, by decide⟩ rfl (Nat.le_of_ble_eq_true rfl) d_ER_value_2 ⟨Nat.zero_le _, Nat.zero_le _⟩ rfl ?_
  refine er_if_eq (tgt := 20) cx d_ER_value_5 (by decide) (fun b2 => ?_) (fun b2 => ?_)
  · have h := er_ift h b2
    refine er_iconst (v := -1) cx d_ER_value_20 rfl (by decide) ?_
    obtain rfl := Option.some.inj h
    exact er_iret rt (Or.inl rfl) d_ER_value_21 (by decide) (by decide) ⟨rfl, rfl, rfl⟩
  · have h := er_iff h b2
    refine er_aload_n cx d_ER_value_8 0 rfl ?_
    obtain ⟨c4, h⟩ := er_ck h
    refine er_getr cx d_ER_value_9 fd_ER_25 c1 c4 ?_
    refine er_iload_n cx d_ER_value_12 1 rfl ?_
    obtain ⟨c5, h⟩ := er_ck h
    refine er_aald cx d_ER_value_13 c5.1 (by decide) c5.2.1 c5.2.2.1 c5.2.2.2 ?_
    obtain ⟨c6, h⟩ := er_ck h
    refine er_geti cx d_ER_value_14 fd_ER_117 c6 ?_
    refine er_goto (tgt := 21) cx d_ER_value_17 (by decide) ?_
    obtain rfl := Option.some.inj h
    exact er_iret rt (Or.inl rfl) d_ER_value_21 (by decide) (by decide) ⟨rfl, rfl, rfl⟩
theorem c_ER_value {l : Launch} {X : er_X} {r : Int × er_Me} {p0 p1 : Int} {T M : er_Me} (h : f_ER_value p0 p1 T M = some r) (hok : ∀ v ∈ ([.inr p0, .inl p1] : List er_V), er_ok v) : er_Ct l X y_ER_value b_ER_value 2 (some .int) rm_ER_value [.inr p0, .inl p1] T M (some (.inl r.1)) T r.2 :=
  er_ct rfl rfl (Nat.le_of_ble_eq_true rfl) hok (fun K cx rt hin => w_ER_value cx rt h)
/-! ER_decided -/
abbrev rm_ER_decided : Room := { frames := 1, cells := 0, slots := 0, locals := 21 }
def f_ER_decided (p0 p1 : Int) (T M : er_Me) : Option (Int × er_Me) :=
  if T p0 (-2) = 1 then
  (f_ER_isNode p0 p1 T M).bind fun q1 =>
  if q1.1 = 0 then
  some ((-1), q1.2)
  else
  if 0 < T p0 0 then
  if T (T p0 0) (-2) = 103 ∧ 0 ≤ p1 ∧ p1 < T (T p0 0) (-1) ∧ 0 < T (T p0 0) p1 then
  if T (T (T p0 0) p1) (-2) = 3 then
  some (q1.2 (T (T p0 0) p1) 12, q1.2) else none else none else none else none
set_option maxHeartbeats 4000000 in
theorem w_ER_decided {K : er_K} {l : Launch} {X : er_X} (cx : er_Cx K l X b_ER_decided "EchoedRounds" 2 rm_ER_decided) {r : Int × er_Me} {p0 p1 : Int} {T M : er_Me} (rt : er_Rt K X b_ER_decided (some .int) 0 0 (some (.inl r.1)) T r.2) (h : f_ER_decided p0 p1 T M = some r) : er_G K 0 0 T M 0 [(0, .inr p0), (1, .inl p1)] [] := by
  unfold f_ER_decided at h
  refine er_aload_n cx d_ER_decided_0 0 rfl ?_
  refine er_iload_n cx d_ER_decided_1 1 rfl ?_
  obtain ⟨c1, h⟩ := er_ck h
  obtain ⟨q1, e1, h⟩ := er_bd h
  refine er_callV (b := p0) (As := [.inl p1]) (st := []) cx (c_ER_isNode e1) my_ER_57 c1 ⟨by decide, by decide⟩ rfl (Nat.le_of_ble_eq_true rfl) d_ER_decided_2 ⟨Nat.zero_le _, Nat.zero_le _⟩ rfl ?_
  refine er_if_eq (tgt := 20) cx d_ER_decided_5 (by decide) (fun b2 => ?_) (fun b2 => ?_)
  · have h := er_ift h b2
    refine er_iconst (v := -1) cx d_ER_decided_20 rfl (by decide) ?_
    obtain rfl := Option.some.inj h
    exact er_iret rt (Or.inl rfl) d_ER_decided_21 (by decide) (by decide) ⟨rfl, rfl, rfl⟩
  · have h := er_iff h b2
    refine er_aload_n cx d_ER_decided_8 0 rfl ?_
    obtain ⟨c4, h⟩ := er_ck h
    refine er_getr cx d_ER_decided_9 fd_ER_25 c1 c4 ?_
    refine er_iload_n cx d_ER_decided_12 1 rfl ?_
    obtain ⟨c5, h⟩ := er_ck h
    refine er_aald cx d_ER_decided_13 c5.1 (by decide) c5.2.1 c5.2.2.1 c5.2.2.2 ?_
    obtain ⟨c6, h⟩ := er_ck h
    refine er_geti cx d_ER_decided_14 fd_ER_120 c6 ?_
    refine er_goto (tgt := 21) cx d_ER_decided_17 (by decide) ?_
    obtain rfl := Option.some.inj h
    exact er_iret rt (Or.inl rfl) d_ER_decided_21 (by decide) (by decide) ⟨rfl, rfl, rfl⟩
theorem c_ER_decided {l : Launch} {X : er_X} {r : Int × er_Me} {p0 p1 : Int} {T M : er_Me} (h : f_ER_decided p0 p1 T M = some r) (hok : ∀ v ∈ ([.inr p0, .inl p1] : List er_V), er_ok v) : er_Ct l X y_ER_decided b_ER_decided 2 (some .int) rm_ER_decided [.inr p0, .inl p1] T M (some (.inl r.1)) T r.2 :=
  er_ct rfl rfl (Nat.le_of_ble_eq_true rfl) hok (fun K cx rt hin => w_ER_decided cx rt h)
/-! ER_init -/
abbrev rm_ER_init : Room := { frames := 3, cells := 324, slots := 10072, locals := 63 }
def f_ER_init_35_b (self : Int → Int → Int → Int → Int → er_Me → er_Me → Option (er_Me × er_Me)) (v0 v1 v2 v3 v4 : Int) (T M : er_Me) : Option (er_Me × er_Me) :=
  if 0 ≤ v4 ∧ v2 ≤ 7 ∧ v4 ≤ 7 then
  if v2 ≤ v4 then
  some (T, M)
  else
  if T v0 (-2) = 1 ∧ 0 < T v0 0 then
  er_le (T 0 0 + 1) fun b3 =>
  er_le (er_nw T 3 0) fun T3 =>
  er_le (er_mw M b3) fun M3 =>
  (f_Node_init b3 v4 v3 T3 M3).bind fun q4 =>
  if q4.1 (T v0 0) (-2) = 103 ∧ q4.1 b3 (-2) = 3 ∧ 0 ≤ v4 ∧ v4 < q4.1 (T v0 0) (-1) then
  er_le (er_up q4.1 (T v0 0) v4 b3) fun T5 =>
  er_le (er_add v4 1) fun x6 =>
  self v0 v1 v2 v3 x6 T5 q4.2 else none else none else none
def f_ER_init_35 : Nat → Int → Int → Int → Int → Int → er_Me → er_Me → Option (er_Me × er_Me)
  | 0 => fun _ _ _ _ _ _ _ => none
  | n + 1 => fun v0 v1 v2 v3 v4 T M => f_ER_init_35_b (f_ER_init_35 n) v0 v1 v2 v3 v4 T M
set_option maxHeartbeats 4000000 in
theorem w_ER_init_35_b {K : er_K} {l : Launch} {X : er_X} (cx : er_Cx K l X b_ER_init "EchoedRounds" 5 rm_ER_init) (hin : er_In K) {r : er_Me × er_Me} (rt : er_Rt K X b_ER_init (none) 324 10072 none r.1 r.2) {self : Int → Int → Int → Int → Int → er_Me → er_Me → Option (er_Me × er_Me)} (hself : ∀ (v0 v1 v2 v3 v4 : Int) (T M : er_Me) (cells slots : Nat), cells + 46 * (7 - v4).toNat ≤ 324 ∧ slots + 1437 * (7 - v4).toNat ≤ 10072 → self v0 v1 v2 v3 v4 T M = some r → er_G K cells slots T M 35 [(0, .inr v0), (1, .inl v1), (2, .inl v2), (3, .inr v3), (4, .inl v4)] []) : ∀ (v0 v1 v2 v3 v4 : Int) (T M : er_Me) (cells slots : Nat), cells + 46 * (7 - v4).toNat ≤ 324 ∧ slots + 1437 * (7 - v4).toNat ≤ 10072 → f_ER_init_35_b self v0 v1 v2 v3 v4 T M = some r → er_G K cells slots T M 35 [(0, .inr v0), (1, .inl v1), (2, .inl v2), (3, .inr v3), (4, .inl v4)] [] := by
  intro v0 v1 v2 v3 v4 T M cells slots hcs h
  unfold f_ER_init_35_b at h
  obtain ⟨c0, h⟩ := er_ck h
  refine er_iload cx d_ER_init_35 4 rfl ?_
  refine er_iload_n cx d_ER_init_37 2 rfl ?_
  refine er_ic_ge (tgt := 64) cx d_ER_init_38 (by decide) (fun b1 => ?_) (fun b1 => ?_)
  · have h := er_ift h b1
    obtain rfl := Option.some.inj h
    exact er_vret rt d_ER_init_64 (by omega) (by omega) ⟨rfl, rfl, rfl⟩
  · have h := er_iff h b1
    refine er_aload_n cx d_ER_init_41 0 rfl ?_
    obtain ⟨c2, h⟩ := er_ck h
    refine er_getr cx d_ER_init_42 fd_ER_25 c2.1 c2.2 ?_
    refine er_iload cx d_ER_init_45 4 rfl ?_
    obtain ⟨b3, eb3, h⟩ := er_lel h
    obtain ⟨T3, eT3, h⟩ := er_lel h
    obtain ⟨M3, eM3, h⟩ := er_lel h
    refine er_new cx d_ER_init_47 (by decide) cl_Node wm_45 wm_47 wm_4 (by show cells + 1 ≤ 324; omega) (by show slots + 13 ≤ 10072; omega) eT3 eb3 eM3 ?_
    refine er_dup cx d_ER_init_50 ?_
    refine er_iload cx d_ER_init_51 4 rfl ?_
    refine er_aload_n cx d_ER_init_53 3 rfl ?_
    obtain ⟨q4, e4, h⟩ := er_bd h
    refine er_callI (b := b3) (As := [.inl v4, .inr v3]) (st := [.inr b3, .inl v4, .inr (T v0 0)]) cx (c_Node_init e4) my_ER_29 ⟨by decide, by decide⟩ rfl (Nat.le_of_ble_eq_true rfl) d_ER_init_54 ⟨(by show cells + 1 + 45 ≤ 324; omega), (by show slots + 13 + 1424 ≤ 10072; omega)⟩ rfl ?_
    obtain ⟨c5, h⟩ := er_ck h
    obtain ⟨T5, e5, h⟩ := er_lel h
    refine er_aast cx d_ER_init_57 c5.1 c5.2.1 cl_Node (by decide) (by decide) (Or.inl ⟨rfl, rfl⟩) c5.2.2.1 c5.2.2.2 e5 ?_
    obtain ⟨x6, e6, h⟩ := er_lel h
    have ea6 := er_addE (x := v4) (y := 1) (by constructor <;> omega)
    refine er_iinc cx d_ER_init_58 (k := 4) rfl (by decide) e6 rfl ?_
    refine er_goto (tgt := 35) cx d_ER_init_61 (by decide) ?_
    refine er_sb cx [1, 2, 3, 4, 0] rfl ?_
    refine er_wd (k := cells + 46) (n := slots + 1437) (by show cells + 1 + 45 ≤ _; omega) (by show slots + 13 + 1424 ≤ _; omega) ?_
    exact hself _ _ _ _ _ _ _ _ _ (by omega) h
theorem w_ER_init_35 {K : er_K} {l : Launch} {X : er_X} (cx : er_Cx K l X b_ER_init "EchoedRounds" 5 rm_ER_init) (hin : er_In K) {r : er_Me × er_Me} (rt : er_Rt K X b_ER_init (none) 324 10072 none r.1 r.2) : ∀ n : Nat, ∀ (v0 v1 v2 v3 v4 : Int) (T M : er_Me) (cells slots : Nat), cells + 46 * (7 - v4).toNat ≤ 324 ∧ slots + 1437 * (7 - v4).toNat ≤ 10072 → f_ER_init_35 n v0 v1 v2 v3 v4 T M = some r → er_G K cells slots T M 35 [(0, .inr v0), (1, .inl v1), (2, .inl v2), (3, .inr v3), (4, .inl v4)] [] := by
  intro n
  induction n with
  | zero =>
    intro v0 v1 v2 v3 v4 T M cells slots hcs h
    cases h
  | succ n ih =>
    intro v0 v1 v2 v3 v4 T M cells slots hcs h
    exact w_ER_init_35_b cx hin rt ih v0 v1 v2 v3 v4 T M cells slots hcs h
def f_ER_init (p0 p1 : Int) (T M : er_Me) : Option (er_Me × er_Me) :=
  er_le (er_max 4 (er_min 7 p1)) fun x4 =>
  er_le (T 0 0 + 1) fun b5 =>
  er_le (er_nw T 2 0) fun T5 =>
  er_le (er_mw M b5) fun M5 =>
  (f_Rules_init b5 x4 T5 M5).bind fun q6 =>
  if 0 ≤ x4 ∧ x4 ≤ 9 then
  er_le (q6.1 0 0 + 1) fun b7 =>
  er_le (er_nw q6.1 103 x4) fun T7 =>
  er_le (er_mw q6.2 b7) fun M7 =>
  if T7 p0 (-2) = 1 ∧ 0 < b7 then
  er_le (er_up T7 p0 0 b7) fun T8 =>
  f_ER_init_35 er_fu p0 p1 x4 b5 0 T8 M7 else none else none
set_option maxHeartbeats 4000000 in
theorem w_ER_init {K : er_K} {l : Launch} {X : er_X} (cx : er_Cx K l X b_ER_init "EchoedRounds" 5 rm_ER_init) (hin : er_In K) {r : er_Me × er_Me} {p0 p1 : Int} {T M : er_Me} (rt : er_Rt K X b_ER_init (none) 324 10072 none r.1 r.2) (h : f_ER_init p0 p1 T M = some r) : er_G K 0 0 T M 0 [(0, .inr p0), (1, .inl p1)] [] := by
  unfold f_ER_init at h
  refine er_aload_n cx d_ER_init_0 0 rfl ?_
  refine er_obj cx d_ER_init_1 wm_14 wm_15 wm_16 (by decide) (Nat.le_of_ble_eq_true rfl) ?_
  refine er_iconst (v := 4) cx d_ER_init_4 rfl (by decide) ?_
  refine er_bipush (v := 7) cx d_ER_init_5 (by decide +kernel) (by decide) ?_
  refine er_iload_n cx d_ER_init_7 1 rfl ?_
  refine er_mmin cx d_ER_init_8 wm_17 wm_18 wm_2 wm_19 (by decide) (Nat.le_of_ble_eq_true rfl) (by decide) (by decide) ?_
  refine er_mmax cx d_ER_init_11 wm_20 wm_21 wm_2 wm_22 (by decide) (Nat.le_of_ble_eq_true rfl) (by decide) (by decide) ?_
  obtain ⟨x4, e4, h⟩ := er_lel h
  refine er_nm e4 ?_
  refine er_istore_n cx d_ER_init_14 rfl (by decide) rfl ?_
  obtain ⟨b5, eb5, h⟩ := er_lel h
  obtain ⟨T5, eT5, h⟩ := er_lel h
  obtain ⟨M5, eM5, h⟩ := er_lel h
  refine er_new cx d_ER_init_15 (by decide) cl_Rules wm_23 wm_24 wm_3 (by decide) (by decide) eT5 eb5 eM5 ?_
  refine er_dup cx d_ER_init_18 ?_
  refine er_iload_n cx d_ER_init_19 0 rfl ?_
  obtain ⟨q6, e6, h⟩ := er_bd h
  refine er_callI (b := b5) (As := [.inl x4]) (st := [.inr b5]) cx (c_Rules_init e6) my_ER_20 ⟨by decide, by decide⟩ rfl (Nat.le_of_ble_eq_true rfl) d_ER_init_20 ⟨(by decide), (by decide)⟩ rfl ?_
  refine er_astore_n cx d_ER_init_23 rfl (by decide) rfl ?_
  refine er_aload_n cx d_ER_init_24 2 rfl ?_
  refine er_iload_n cx d_ER_init_25 1 rfl ?_
  obtain ⟨c7, h⟩ := er_ck h
  obtain ⟨b7, eb7, h⟩ := er_lel h
  obtain ⟨T7, eT7, h⟩ := er_lel h
  obtain ⟨M7, eM7, h⟩ := er_lel h
  refine er_newq (t := 2) cx d_ER_init_26 wm_45 (by decide) (Or.inl ⟨rfl, rfl⟩) (by decide) c7.1 c7.2 (by decide) (by decide) eT7 eb7 eM7 ?_
  obtain ⟨c8, h⟩ := er_ck h
  obtain ⟨T8, e8, h⟩ := er_lel h
  refine er_putr cx d_ER_init_29 fd_ER_25 c8.1 (fun _ => ⟨hin, rfl, rfl⟩) (fun _ => rfl) (fun _ => rfl) c8.2 e8 ?_
  refine er_iconst (v := 0) cx d_ER_init_32 rfl (by decide) ?_
  refine er_istore cx d_ER_init_33 (by decide) rfl ?_
  refine er_sb cx [3, 4, 2, 1, 0] rfl ?_
  exact w_ER_init_35 cx hin rt er_fu _ _ _ _ _ _ _ _ _ (by decide) h
theorem c_ER_init {l : Launch} {X : er_X} {r : er_Me × er_Me} {p0 p1 : Int} {T M : er_Me} (h : f_ER_init p0 p1 T M = some r) (hok : ∀ v ∈ ([.inr p0, .inl p1] : List er_V), er_ok v) : er_Ct l X y_ER_init b_ER_init 5 (none) rm_ER_init [.inr p0, .inl p1] T M none r.1 r.2 :=
  er_ct rfl rfl (Nat.le_of_ble_eq_true rfl) hok (fun K cx rt hin => w_ER_init cx (hin rfl) rt h)
/-! ER_corrupt -/
abbrev rm_ER_corrupt : Room := { frames := 2, cells := 0, slots := 0, locals := 42 }
def f_ER_corrupt (p0 p1 : Int) (T M : er_Me) : Option (Int × er_Me) :=
  if T p0 (-2) = 1 then
  (f_ER_isWellBehaved p0 p1 T M).bind fun q1 =>
  if q1.1 = 0 then
  some (0, q1.2)
  else
  if 0 < T p0 0 then
  if T (T p0 0) (-2) = 103 ∧ 0 ≤ p1 ∧ p1 < T (T p0 0) (-1) ∧ 0 < T (T p0 0) p1 then
  if T (T (T p0 0) p1) (-2) = 3 then
  er_le (er_up q1.2 (T (T p0 0) p1) 8 0) fun M5 =>
  some (1, M5) else none else none else none else none
set_option maxHeartbeats 4000000 in
theorem w_ER_corrupt {K : er_K} {l : Launch} {X : er_X} (cx : er_Cx K l X b_ER_corrupt "EchoedRounds" 2 rm_ER_corrupt) {r : Int × er_Me} {p0 p1 : Int} {T M : er_Me} (rt : er_Rt K X b_ER_corrupt (some .boolean) 0 0 (some (.inl r.1)) T r.2) (h : f_ER_corrupt p0 p1 T M = some r) : er_G K 0 0 T M 0 [(0, .inr p0), (1, .inl p1)] [] := by
  unfold f_ER_corrupt at h
  refine er_aload_n cx d_ER_corrupt_0 0 rfl ?_
  refine er_iload_n cx d_ER_corrupt_1 1 rfl ?_
  obtain ⟨c1, h⟩ := er_ck h
  obtain ⟨q1, e1, h⟩ := er_bd h
  refine er_callV (b := p0) (As := [.inl p1]) (st := []) cx (c_ER_isWellBehaved e1) my_ER_32 c1 ⟨by decide, by decide⟩ rfl (Nat.le_of_ble_eq_true rfl) d_ER_corrupt_2 ⟨Nat.zero_le _, Nat.zero_le _⟩ rfl ?_
  refine er_if_ne (tgt := 10) cx d_ER_corrupt_5 (by decide) (fun b2 => ?_) (fun b2 => ?_)
  · have h := er_iff h b2
    refine er_aload_n cx d_ER_corrupt_10 0 rfl ?_
    obtain ⟨c3, h⟩ := er_ck h
    refine er_getr cx d_ER_corrupt_11 fd_ER_25 c1 c3 ?_
    refine er_iload_n cx d_ER_corrupt_14 1 rfl ?_
    obtain ⟨c4, h⟩ := er_ck h
    refine er_aald cx d_ER_corrupt_15 c4.1 (by decide) c4.2.1 c4.2.2.1 c4.2.2.2 ?_
    refine er_iconst (v := 0) cx d_ER_corrupt_16 rfl (by decide) ?_
    obtain ⟨c5, h⟩ := er_ck h
    obtain ⟨M5, e5, h⟩ := er_lel h
    refine er_putz cx d_ER_corrupt_17 fd_ER_36 c5 (fun q => by cases q) (Or.inl rfl) e5 ?_
    refine er_iconst (v := 1) cx d_ER_corrupt_20 rfl (by decide) ?_
    obtain rfl := Option.some.inj h
    exact er_iret rt (Or.inr ⟨rfl, Or.inr rfl⟩) d_ER_corrupt_21 (by decide) (by decide) ⟨rfl, rfl, rfl⟩
  · have h := er_ift h b2
    refine er_iconst (v := 0) cx d_ER_corrupt_8 rfl (by decide) ?_
    obtain rfl := Option.some.inj h
    exact er_iret rt (Or.inr ⟨rfl, Or.inl rfl⟩) d_ER_corrupt_9 (by decide) (by decide) ⟨rfl, rfl, rfl⟩
theorem c_ER_corrupt {l : Launch} {X : er_X} {r : Int × er_Me} {p0 p1 : Int} {T M : er_Me} (h : f_ER_corrupt p0 p1 T M = some r) (hok : ∀ v ∈ ([.inr p0, .inl p1] : List er_V), er_ok v) : er_Ct l X y_ER_corrupt b_ER_corrupt 2 (some .boolean) rm_ER_corrupt [.inr p0, .inl p1] T M (some (.inl r.1)) T r.2 :=
  er_ct rfl rfl (Nat.le_of_ble_eq_true rfl) hok (fun K cx rt hin => w_ER_corrupt cx rt h)
/-! ER_tosses -/
abbrev rm_ER_tosses : Room := { frames := 2, cells := 0, slots := 0, locals := 42 }
def f_ER_tosses (p0 p1 p2 : Int) (T M : er_Me) : Option (Int × er_Me) :=
  if T p0 (-2) = 1 then
  (f_ER_isWellBehaved p0 p1 T M).bind fun q1 =>
  if q1.1 = 0 then
  some (0, q1.2)
  else
  if 0 < T p0 0 then
  if T (T p0 0) (-2) = 103 ∧ 0 ≤ p1 ∧ p1 < T (T p0 0) (-1) ∧ 0 < T (T p0 0) p1 then
  if T (T (T p0 0) p1) (-2) = 3 then
  er_le (er_up q1.2 (T (T p0 0) p1) 9 (er_and p2 7)) fun M5 =>
  some (1, M5) else none else none else none else none
set_option maxHeartbeats 4000000 in
theorem w_ER_tosses {K : er_K} {l : Launch} {X : er_X} (cx : er_Cx K l X b_ER_tosses "EchoedRounds" 3 rm_ER_tosses) {r : Int × er_Me} {p0 p1 p2 : Int} {T M : er_Me} (rt : er_Rt K X b_ER_tosses (some .boolean) 0 0 (some (.inl r.1)) T r.2) (h : f_ER_tosses p0 p1 p2 T M = some r) : er_G K 0 0 T M 0 [(0, .inr p0), (1, .inl p1), (2, .inl p2)] [] := by
  unfold f_ER_tosses at h
  refine er_aload_n cx d_ER_tosses_0 0 rfl ?_
  refine er_iload_n cx d_ER_tosses_1 1 rfl ?_
  obtain ⟨c1, h⟩ := er_ck h
  obtain ⟨q1, e1, h⟩ := er_bd h
  refine er_callV (b := p0) (As := [.inl p1]) (st := []) cx (c_ER_isWellBehaved e1) my_ER_32 c1 ⟨by decide, by decide⟩ rfl (Nat.le_of_ble_eq_true rfl) d_ER_tosses_2 ⟨Nat.zero_le _, Nat.zero_le _⟩ rfl ?_
  refine er_if_ne (tgt := 10) cx d_ER_tosses_5 (by decide) (fun b2 => ?_) (fun b2 => ?_)
  · have h := er_iff h b2
    refine er_aload_n cx d_ER_tosses_10 0 rfl ?_
    obtain ⟨c3, h⟩ := er_ck h
    refine er_getr cx d_ER_tosses_11 fd_ER_25 c1 c3 ?_
    refine er_iload_n cx d_ER_tosses_14 1 rfl ?_
    obtain ⟨c4, h⟩ := er_ck h
    refine er_aald cx d_ER_tosses_15 c4.1 (by decide) c4.2.1 c4.2.2.1 c4.2.2.2 ?_
    refine er_iload_n cx d_ER_tosses_16 2 rfl ?_
    refine er_bipush (v := 7) cx d_ER_tosses_17 (by decide +kernel) (by decide) ?_
    refine er_iand cx d_ER_tosses_19 ?_
    obtain ⟨c5, h⟩ := er_ck h
    obtain ⟨M5, e5, h⟩ := er_lel h
    refine er_puti cx d_ER_tosses_20 fd_ER_40 c5 (fun q => by cases q) e5 ?_
    refine er_iconst (v := 1) cx d_ER_tosses_23 rfl (by decide) ?_
    obtain rfl := Option.some.inj h
    exact er_iret rt (Or.inr ⟨rfl, Or.inr rfl⟩) d_ER_tosses_24 (by decide) (by decide) ⟨rfl, rfl, rfl⟩
  · have h := er_ift h b2
    refine er_iconst (v := 0) cx d_ER_tosses_8 rfl (by decide) ?_
    obtain rfl := Option.some.inj h
    exact er_iret rt (Or.inr ⟨rfl, Or.inl rfl⟩) d_ER_tosses_9 (by decide) (by decide) ⟨rfl, rfl, rfl⟩
theorem c_ER_tosses {l : Launch} {X : er_X} {r : Int × er_Me} {p0 p1 p2 : Int} {T M : er_Me} (h : f_ER_tosses p0 p1 p2 T M = some r) (hok : ∀ v ∈ ([.inr p0, .inl p1, .inl p2] : List er_V), er_ok v) : er_Ct l X y_ER_tosses b_ER_tosses 3 (some .boolean) rm_ER_tosses [.inr p0, .inl p1, .inl p2] T M (some (.inl r.1)) T r.2 :=
  er_ct rfl rfl (Nat.le_of_ble_eq_true rfl) hok (fun K cx rt hin => w_ER_tosses cx rt h)
/-! ER_start -/
abbrev rm_ER_start : Room := { frames := 7, cells := 0, slots := 0, locals := 157 }
def f_ER_start (p0 p1 p2 : Int) (T M : er_Me) : Option (Int × er_Me) :=
  if T p0 (-2) = 1 then
  (f_ER_isWellBehaved p0 p1 T M).bind fun q1 =>
  if q1.1 = 0 then
  some (0, q1.2)
  else
  if 0 < T p0 0 then
  if T (T p0 0) (-2) = 103 ∧ 0 ≤ p1 ∧ p1 < T (T p0 0) (-1) ∧ 0 < T (T p0 0) p1 then
  if T (T (T p0 0) p1) (-2) = 3 then
  if q1.2 (T (T p0 0) p1) 10 = (-1) then
  (f_ER_isPlain p2 T q1.2).bind fun q9 =>
  if q9.1 = 0 then
  some (0, q9.2)
  else
  (f_Node_enter (T (T p0 0) p1) 0 p2 T q9.2).bind fun q13 =>
  (f_Node_settle (T (T p0 0) p1) T q13).bind fun q16 =>
  some (1, q16)
  else
  some (0, q1.2) else none else none else none else none
set_option maxHeartbeats 4000000 in
theorem w_ER_start {K : er_K} {l : Launch} {X : er_X} (cx : er_Cx K l X b_ER_start "EchoedRounds" 3 rm_ER_start) {r : Int × er_Me} {p0 p1 p2 : Int} {T M : er_Me} (rt : er_Rt K X b_ER_start (some .boolean) 0 0 (some (.inl r.1)) T r.2) (h : f_ER_start p0 p1 p2 T M = some r) : er_G K 0 0 T M 0 [(0, .inr p0), (1, .inl p1), (2, .inl p2)] [] := by
  unfold f_ER_start at h
  refine er_aload_n cx d_ER_start_0 0 rfl ?_
  refine er_iload_n cx d_ER_start_1 1 rfl ?_
  obtain ⟨c1, h⟩ := er_ck h
  obtain ⟨q1, e1, h⟩ := er_bd h
  refine er_callV (b := p0) (As := [.inl p1]) (st := []) cx (c_ER_isWellBehaved e1) my_ER_32 c1 ⟨by decide, by decide⟩ rfl (Nat.le_of_ble_eq_true rfl) d_ER_start_2 ⟨Nat.zero_le _, Nat.zero_le _⟩ rfl ?_
  refine er_if_eq (tgt := 28) cx d_ER_start_5 (by decide) (fun b2 => ?_) (fun b2 => ?_)
  · have h := er_ift h b2
    refine er_iconst (v := 0) cx d_ER_start_28 rfl (by decide) ?_
    obtain rfl := Option.some.inj h
    exact er_iret rt (Or.inr ⟨rfl, Or.inl rfl⟩) d_ER_start_29 (by decide) (by decide) ⟨rfl, rfl, rfl⟩
  · have h := er_iff h b2
    refine er_aload_n cx d_ER_start_8 0 rfl ?_
    obtain ⟨c4, h⟩ := er_ck h
    refine er_getr cx d_ER_start_9 fd_ER_25 c1 c4 ?_
    refine er_iload_n cx d_ER_start_12 1 rfl ?_
    obtain ⟨c5, h⟩ := er_ck h
    refine er_aald cx d_ER_start_13 c5.1 (by decide) c5.2.1 c5.2.2.1 c5.2.2.2 ?_
    obtain ⟨c6, h⟩ := er_ck h
    refine er_geti cx d_ER_start_14 fd_ER_44 c6 ?_
    refine er_iconst (v := -1) cx d_ER_start_17 rfl (by decide) ?_
    refine er_ic_ne (tgt := 28) cx d_ER_start_18 (by decide) (fun b7 => ?_) (fun b7 => ?_)
    · have h := er_iff h b7
      refine er_iconst (v := 0) cx d_ER_start_28 rfl (by decide) ?_
      obtain rfl := Option.some.inj h
      exact er_iret rt (Or.inr ⟨rfl, Or.inl rfl⟩) d_ER_start_29 (by decide) (by decide) ⟨rfl, rfl, rfl⟩
    · have h := er_ift h b7
      refine er_iload_n cx d_ER_start_21 2 rfl ?_
      obtain ⟨q9, e9, h⟩ := er_bd h
      refine er_callS (As := [.inl p2]) (st := []) cx (c_ER_isPlain e9) my_ER_47 ⟨by decide, by decide⟩ rfl (Nat.le_of_ble_eq_true rfl) d_ER_start_22 ⟨Nat.zero_le _, Nat.zero_le _⟩ rfl ?_
      refine er_if_ne (tgt := 30) cx d_ER_start_25 (by decide) (fun b10 => ?_) (fun b10 => ?_)
      · have h := er_iff h b10
        refine er_aload_n cx d_ER_start_30 0 rfl ?_
        refine er_getr cx d_ER_start_31 fd_ER_25 c1 c4 ?_
        refine er_iload_n cx d_ER_start_34 1 rfl ?_
        refine er_aald cx d_ER_start_35 c5.1 (by decide) c5.2.1 c5.2.2.1 c5.2.2.2 ?_
        refine er_iconst (v := 0) cx d_ER_start_36 rfl (by decide) ?_
        refine er_iload_n cx d_ER_start_37 2 rfl ?_
        obtain ⟨q13, e13, h⟩ := er_bd h
        refine er_callV (b := T (T p0 0) p1) (As := [.inl 0, .inl p2]) (st := []) cx (c_Node_enter e13) my_ER_50 c6 ⟨by decide, by decide⟩ rfl (Nat.le_of_ble_eq_true rfl) d_ER_start_38 ⟨Nat.zero_le _, Nat.zero_le _⟩ rfl ?_
        refine er_aload_n cx d_ER_start_41 0 rfl ?_
        refine er_getr cx d_ER_start_42 fd_ER_25 c1 c4 ?_
        refine er_iload_n cx d_ER_start_45 1 rfl ?_
        refine er_aald cx d_ER_start_46 c5.1 (by decide) c5.2.1 c5.2.2.1 c5.2.2.2 ?_
        obtain ⟨q16, e16, h⟩ := er_bd h
        refine er_callV (b := T (T p0 0) p1) (As := []) (st := []) cx (c_Node_settle e16) my_ER_54 c6 ⟨by decide, by decide⟩ rfl (Nat.le_of_ble_eq_true rfl) d_ER_start_47 ⟨Nat.zero_le _, Nat.zero_le _⟩ rfl ?_
        refine er_iconst (v := 1) cx d_ER_start_50 rfl (by decide) ?_
        obtain rfl := Option.some.inj h
        exact er_iret rt (Or.inr ⟨rfl, Or.inr rfl⟩) d_ER_start_51 (by decide) (by decide) ⟨rfl, rfl, rfl⟩
      · have h := er_ift h b10
        refine er_iconst (v := 0) cx d_ER_start_28 rfl (by decide) ?_
        obtain rfl := Option.some.inj h
        exact er_iret rt (Or.inr ⟨rfl, Or.inl rfl⟩) d_ER_start_29 (by decide) (by decide) ⟨rfl, rfl, rfl⟩
theorem c_ER_start {l : Launch} {X : er_X} {r : Int × er_Me} {p0 p1 p2 : Int} {T M : er_Me} (h : f_ER_start p0 p1 p2 T M = some r) (hok : ∀ v ∈ ([.inr p0, .inl p1, .inl p2] : List er_V), er_ok v) : er_Ct l X y_ER_start b_ER_start 3 (some .boolean) rm_ER_start [.inr p0, .inl p1, .inl p2] T M (some (.inl r.1)) T r.2 :=
  er_ct rfl rfl (Nat.le_of_ble_eq_true rfl) hok (fun K cx rt hin => w_ER_start cx rt h)
/-! ER_pass -/
abbrev rm_ER_pass : Room := { frames := 7, cells := 0, slots := 0, locals := 157 }
def f_ER_pass_37_b (self : Int → Int → Int → Int → Int → er_Me → Option (Int × er_Me)) (v0 v1 v2 v3 v4 : Int) (T M : er_Me) : Option (Int × er_Me) :=
  if v3 ≤ v4 then
  some (v4, M)
  else
  if T v0 (-2) = 1 ∧ 0 < T v0 0 then
  if T (T v0 0) (-2) = 103 ∧ 0 ≤ v2 ∧ v2 < T (T v0 0) (-1) ∧ 0 < T (T v0 0) v2 then
  if 0 ≤ v1 ∧ v1 < T (T v0 0) (-1) ∧ 0 < T (T v0 0) v1 then
  if T (T (T v0 0) v1) (-2) = 3 ∧ 0 < T (T (T v0 0) v1) 2 then
  if T (T (T v0 0) v2) (-2) = 3 then
  (f_Node_hearNextOf (T (T v0 0) v2) v1 (T (T (T v0 0) v1) 2) T M).bind fun q8 =>
  if q8.1 = 0 then
  some (v4, q8.2)
  else
  (f_Node_settle (T (T v0 0) v2) T q8.2).bind fun q13 =>
  er_le (er_add v4 1) fun x14 =>
  self v0 v1 v2 v3 x14 q13 else none else none else none else none else none
def f_ER_pass_37 : Nat → er_Me → Int → Int → Int → Int → Int → er_Me → Option (Int × er_Me)
  | 0, _ => fun _ _ _ _ _ _ => none
  | n + 1, T => fun v0 v1 v2 v3 v4 M => f_ER_pass_37_b (f_ER_pass_37 n T) v0 v1 v2 v3 v4 T M
set_option maxHeartbeats 4000000 in
theorem w_ER_pass_37_b {K : er_K} {l : Launch} {X : er_X} (cx : er_Cx K l X b_ER_pass "EchoedRounds" 5 rm_ER_pass) {r : Int × er_Me} {T : er_Me} (rt : er_Rt K X b_ER_pass (some .int) 0 0 (some (.inl r.1)) T r.2) {self : Int → Int → Int → Int → Int → er_Me → Option (Int × er_Me)} (hself : ∀ (v0 v1 v2 v3 v4 : Int) (M : er_Me), self v0 v1 v2 v3 v4 M = some r → er_G K 0 0 T M 37 [(0, .inr v0), (1, .inl v1), (2, .inl v2), (3, .inl v3), (4, .inl v4)] []) : ∀ (v0 v1 v2 v3 v4 : Int) (M : er_Me), f_ER_pass_37_b self v0 v1 v2 v3 v4 T M = some r → er_G K 0 0 T M 37 [(0, .inr v0), (1, .inl v1), (2, .inl v2), (3, .inl v3), (4, .inl v4)] [] := by
  intro v0 v1 v2 v3 v4 M h
  unfold f_ER_pass_37_b at h
  refine er_iload cx d_ER_pass_37 4 rfl ?_
  refine er_iload_n cx d_ER_pass_39 3 rfl ?_
  refine er_ic_ge (tgt := 80) cx d_ER_pass_40 (by decide) (fun b1 => ?_) (fun b1 => ?_)
  · have h := er_ift h b1
    refine er_iload cx d_ER_pass_80 4 rfl ?_
    obtain rfl := Option.some.inj h
    exact er_iret rt (Or.inl rfl) d_ER_pass_82 (by decide) (by decide) ⟨rfl, rfl, rfl⟩
  · have h := er_iff h b1
    refine er_aload_n cx d_ER_pass_43 0 rfl ?_
    obtain ⟨c3, h⟩ := er_ck h
    refine er_getr cx d_ER_pass_44 fd_ER_25 c3.1 c3.2 ?_
    refine er_iload_n cx d_ER_pass_47 2 rfl ?_
    obtain ⟨c4, h⟩ := er_ck h
    refine er_aald cx d_ER_pass_48 c4.1 (by decide) c4.2.1 c4.2.2.1 c4.2.2.2 ?_
    refine er_iload_n cx d_ER_pass_49 1 rfl ?_
    refine er_aload_n cx d_ER_pass_50 0 rfl ?_
    refine er_getr cx d_ER_pass_51 fd_ER_25 c3.1 c3.2 ?_
    refine er_iload_n cx d_ER_pass_54 1 rfl ?_
    obtain ⟨c6, h⟩ := er_ck h
    refine er_aald cx d_ER_pass_55 c4.1 (by decide) c6.1 c6.2.1 c6.2.2 ?_
    obtain ⟨c7, h⟩ := er_ck h
    refine er_getr cx d_ER_pass_56 fd_ER_60 c7.1 c7.2 ?_
    obtain ⟨c8, h⟩ := er_ck h
    obtain ⟨q8, e8, h⟩ := er_bd h
    refine er_callV (b := T (T v0 0) v2) (As := [.inl v1, .inr (T (T (T v0 0) v1) 2)]) (st := []) cx (c_Node_hearNextOf e8) my_ER_64 c8 ⟨by decide, by decide⟩ rfl (Nat.le_of_ble_eq_true rfl) d_ER_pass_59 ⟨Nat.zero_le _, Nat.zero_le _⟩ rfl ?_
    refine er_if_eq (tgt := 80) cx d_ER_pass_62 (by decide) (fun b9 => ?_) (fun b9 => ?_)
    · have h := er_ift h b9
      refine er_iload cx d_ER_pass_80 4 rfl ?_
      obtain rfl := Option.some.inj h
      exact er_iret rt (Or.inl rfl) d_ER_pass_82 (by decide) (by decide) ⟨rfl, rfl, rfl⟩
    · have h := er_iff h b9
      refine er_aload_n cx d_ER_pass_65 0 rfl ?_
      refine er_getr cx d_ER_pass_66 fd_ER_25 c3.1 c3.2 ?_
      refine er_iload_n cx d_ER_pass_69 2 rfl ?_
      refine er_aald cx d_ER_pass_70 c4.1 (by decide) c4.2.1 c4.2.2.1 c4.2.2.2 ?_
      obtain ⟨q13, e13, h⟩ := er_bd h
      refine er_callV (b := T (T v0 0) v2) (As := []) (st := []) cx (c_Node_settle e13) my_ER_54 c8 ⟨by decide, by decide⟩ rfl (Nat.le_of_ble_eq_true rfl) d_ER_pass_71 ⟨Nat.zero_le _, Nat.zero_le _⟩ rfl ?_
      obtain ⟨x14, e14, h⟩ := er_lel h
      refine er_iinc cx d_ER_pass_74 (k := 4) rfl (by decide) e14 rfl ?_
      refine er_goto (tgt := 37) cx d_ER_pass_77 (by decide) ?_
      refine er_sb cx [1, 2, 3, 4, 0] rfl ?_
      exact hself _ _ _ _ _ _ h
theorem w_ER_pass_37 {K : er_K} {l : Launch} {X : er_X} (cx : er_Cx K l X b_ER_pass "EchoedRounds" 5 rm_ER_pass) {r : Int × er_Me} {T : er_Me} (rt : er_Rt K X b_ER_pass (some .int) 0 0 (some (.inl r.1)) T r.2) : ∀ n : Nat, ∀ (v0 v1 v2 v3 v4 : Int) (M : er_Me), f_ER_pass_37 n T v0 v1 v2 v3 v4 M = some r → er_G K 0 0 T M 37 [(0, .inr v0), (1, .inl v1), (2, .inl v2), (3, .inl v3), (4, .inl v4)] [] := by
  intro n
  induction n with
  | zero =>
    intro v0 v1 v2 v3 v4 M h
    cases h
  | succ n ih =>
    intro v0 v1 v2 v3 v4 M h
    exact w_ER_pass_37_b cx rt ih v0 v1 v2 v3 v4 M h
def f_ER_pass (p0 p1 p2 p3 : Int) (T M : er_Me) : Option (Int × er_Me) :=
  if T p0 (-2) = 1 then
  (f_ER_isNode p0 p1 T M).bind fun q1 =>
  if q1.1 = 0 then
  some ((-1), q1.2)
  else
  (f_ER_isWellBehaved p0 p2 T q1.2).bind fun q4 =>
  if q4.1 = 0 then
  some ((-1), q4.2)
  else
  if p1 = p2 then
  some ((-1), q4.2)
  else
  if p3 < 1 then
  some ((-1), q4.2)
  else
  if p3 ≤ 100 then
  f_ER_pass_37 er_fu T p0 p1 p2 p3 0 q4.2
  else
  some ((-1), q4.2) else none
set_option maxHeartbeats 4000000 in
theorem w_ER_pass {K : er_K} {l : Launch} {X : er_X} (cx : er_Cx K l X b_ER_pass "EchoedRounds" 5 rm_ER_pass) {r : Int × er_Me} {p0 p1 p2 p3 : Int} {T M : er_Me} (rt : er_Rt K X b_ER_pass (some .int) 0 0 (some (.inl r.1)) T r.2) (h : f_ER_pass p0 p1 p2 p3 T M = some r) : er_G K 0 0 T M 0 [(0, .inr p0), (1, .inl p1), (2, .inl p2), (3, .inl p3)] [] := by
  unfold f_ER_pass at h
  refine er_aload_n cx d_ER_pass_0 0 rfl ?_
  refine er_iload_n cx d_ER_pass_1 1 rfl ?_
  obtain ⟨c1, h⟩ := er_ck h
  obtain ⟨q1, e1, h⟩ := er_bd h
  refine er_callV (b := p0) (As := [.inl p1]) (st := []) cx (c_ER_isNode e1) my_ER_57 c1 ⟨by decide, by decide⟩ rfl (Nat.le_of_ble_eq_true rfl) d_ER_pass_2 ⟨Nat.zero_le _, Nat.zero_le _⟩ rfl ?_
  refine er_if_eq (tgt := 32) cx d_ER_pass_5 (by decide) (fun b2 => ?_) (fun b2 => ?_)
  · have h := er_ift h b2
    refine er_iconst (v := -1) cx d_ER_pass_32 rfl (by decide) ?_
    obtain rfl := Option.some.inj h
    exact er_iret rt (Or.inl rfl) d_ER_pass_33 (by decide) (by decide) ⟨rfl, rfl, rfl⟩
  · have h := er_iff h b2
    refine er_aload_n cx d_ER_pass_8 0 rfl ?_
    refine er_iload_n cx d_ER_pass_9 2 rfl ?_
    obtain ⟨q4, e4, h⟩ := er_bd h
    refine er_callV (b := p0) (As := [.inl p2]) (st := []) cx (c_ER_isWellBehaved e4) my_ER_32 c1 ⟨by decide, by decide⟩ rfl (Nat.le_of_ble_eq_true rfl) d_ER_pass_10 ⟨Nat.zero_le _, Nat.zero_le _⟩ rfl ?_
    refine er_if_eq (tgt := 32) cx d_ER_pass_13 (by decide) (fun b5 => ?_) (fun b5 => ?_)
    · have h := er_ift h b5
      refine er_iconst (v := -1) cx d_ER_pass_32 rfl (by decide) ?_
      obtain rfl := Option.some.inj h
      exact er_iret rt (Or.inl rfl) d_ER_pass_33 (by decide) (by decide) ⟨rfl, rfl, rfl⟩
    · have h := er_iff h b5
      refine er_iload_n cx d_ER_pass_16 1 rfl ?_
      refine er_iload_n cx d_ER_pass_17 2 rfl ?_
      refine er_ic_eq (tgt := 32) cx d_ER_pass_18 (by decide) (fun b7 => ?_) (fun b7 => ?_)
      · have h := er_ift h b7
        refine er_iconst (v := -1) cx d_ER_pass_32 rfl (by decide) ?_
        obtain rfl := Option.some.inj h
        exact er_iret rt (Or.inl rfl) d_ER_pass_33 (by decide) (by decide) ⟨rfl, rfl, rfl⟩
      · have h := er_iff h b7
        refine er_iload_n cx d_ER_pass_21 3 rfl ?_
        refine er_iconst (v := 1) cx d_ER_pass_22 rfl (by decide) ?_
        refine er_ic_lt (tgt := 32) cx d_ER_pass_23 (by decide) (fun b9 => ?_) (fun b9 => ?_)
        · have h := er_ift h b9
          refine er_iconst (v := -1) cx d_ER_pass_32 rfl (by decide) ?_
          obtain rfl := Option.some.inj h
          exact er_iret rt (Or.inl rfl) d_ER_pass_33 (by decide) (by decide) ⟨rfl, rfl, rfl⟩
        · have h := er_iff h b9
          refine er_iload_n cx d_ER_pass_26 3 rfl ?_
          refine er_bipush (v := 100) cx d_ER_pass_27 (by decide +kernel) (by decide) ?_
          refine er_ic_le (tgt := 34) cx d_ER_pass_29 (by decide) (fun b11 => ?_) (fun b11 => ?_)
          · have h := er_ift h b11
            refine er_iconst (v := 0) cx d_ER_pass_34 rfl (by decide) ?_
            refine er_istore cx d_ER_pass_35 (by decide) rfl ?_
            refine er_sb cx [1, 2, 3, 4, 0] rfl ?_
            exact w_ER_pass_37 cx rt er_fu _ _ _ _ _ _ h
          · have h := er_iff h b11
            refine er_iconst (v := -1) cx d_ER_pass_32 rfl (by decide) ?_
            obtain rfl := Option.some.inj h
            exact er_iret rt (Or.inl rfl) d_ER_pass_33 (by decide) (by decide) ⟨rfl, rfl, rfl⟩
theorem c_ER_pass {l : Launch} {X : er_X} {r : Int × er_Me} {p0 p1 p2 p3 : Int} {T M : er_Me} (h : f_ER_pass p0 p1 p2 p3 T M = some r) (hok : ∀ v ∈ ([.inr p0, .inl p1, .inl p2, .inl p3] : List er_V), er_ok v) : er_Ct l X y_ER_pass b_ER_pass 5 (some .int) rm_ER_pass [.inr p0, .inl p1, .inl p2, .inl p3] T M (some (.inl r.1)) T r.2 :=
  er_ct rfl rfl (Nat.le_of_ble_eq_true rfl) hok (fun K cx rt hin => w_ER_pass cx rt h)
/-! ER_forge -/
abbrev rm_ER_forge : Room := { frames := 7, cells := 0, slots := 0, locals := 157 }
def f_ER_forge (p0 p1 p2 p3 p4 p5 : Int) (T M : er_Me) : Option (Int × er_Me) :=
  if T p0 (-2) = 1 then
  (f_ER_isNode p0 p1 T M).bind fun q1 =>
  if q1.1 = 0 then
  some (0, q1.2)
  else
  if 0 < T p0 0 then
  if T (T p0 0) (-2) = 103 ∧ 0 ≤ p1 ∧ p1 < T (T p0 0) (-1) ∧ 0 < T (T p0 0) p1 then
  if T (T (T p0 0) p1) (-2) = 3 then
  if q1.2 (T (T p0 0) p1) 8 = 0 then
  (f_ER_isWellBehaved p0 p2 T q1.2).bind fun q9 =>
  if q9.1 = 0 then
  some (0, q9.2)
  else
  (f_ER_isSlot p3 T q9.2).bind fun q11 =>
  if q11.1 = 0 then
  some (0, q11.2)
  else
  (f_ER_isNode p0 p4 T q11.2).bind fun q14 =>
  if q14.1 = 0 then
  some (0, q14.2)
  else
  if p5 < 0 then
  some (0, q14.2)
  else
  if p5 < 12 then
  if 0 ≤ p2 ∧ p2 < T (T p0 0) (-1) ∧ 0 < T (T p0 0) p2 then
  (f_ER_codeOf (er_div p5 4) p3 p4 (er_rem p5 4) T q14.2).bind fun q22 =>
  if T (T (T p0 0) p2) (-2) = 3 then
  (f_Node_hear (T (T p0 0) p2) p1 q22.1 T q22.2).bind fun q23 =>
  (f_Node_settle (T (T p0 0) p2) T q23.2).bind fun q26 =>
  if q23.1 = 0 ∨ q23.1 = 1 then some (q23.1, q26) else none else none else none
  else
  some (0, q14.2)
  else
  some (0, q1.2) else none else none else none else none
set_option maxHeartbeats 4000000 in
theorem w_ER_forge {K : er_K} {l : Launch} {X : er_X} (cx : er_Cx K l X b_ER_forge "EchoedRounds" 7 rm_ER_forge) {r : Int × er_Me} {p0 p1 p2 p3 p4 p5 : Int} {T M : er_Me} (rt : er_Rt K X b_ER_forge (some .boolean) 0 0 (some (.inl r.1)) T r.2) (h : f_ER_forge p0 p1 p2 p3 p4 p5 T M = some r) : er_G K 0 0 T M 0 [(0, .inr p0), (1, .inl p1), (2, .inl p2), (3, .inl p3), (4, .inl p4), (5, .inl p5)] [] := by
  unfold f_ER_forge at h
  refine er_aload_n cx d_ER_forge_0 0 rfl ?_
  refine er_iload_n cx d_ER_forge_1 1 rfl ?_
  obtain ⟨c1, h⟩ := er_ck h
  obtain ⟨q1, e1, h⟩ := er_bd h
  refine er_callV (b := p0) (As := [.inl p1]) (st := []) cx (c_ER_isNode e1) my_ER_57 c1 ⟨by decide, by decide⟩ rfl (Nat.le_of_ble_eq_true rfl) d_ER_forge_2 ⟨Nat.zero_le _, Nat.zero_le _⟩ rfl ?_
  refine er_if_eq (tgt := 28) cx d_ER_forge_5 (by decide) (fun b2 => ?_) (fun b2 => ?_)
  · have h := er_ift h b2
    refine er_iconst (v := 0) cx d_ER_forge_28 rfl (by decide) ?_
    obtain rfl := Option.some.inj h
    exact er_iret rt (Or.inr ⟨rfl, Or.inl rfl⟩) d_ER_forge_29 (by decide) (by decide) ⟨rfl, rfl, rfl⟩
  · have h := er_iff h b2
    refine er_aload_n cx d_ER_forge_8 0 rfl ?_
    obtain ⟨c4, h⟩ := er_ck h
    refine er_getr cx d_ER_forge_9 fd_ER_25 c1 c4 ?_
    refine er_iload_n cx d_ER_forge_12 1 rfl ?_
    obtain ⟨c5, h⟩ := er_ck h
    refine er_aald cx d_ER_forge_13 c5.1 (by decide) c5.2.1 c5.2.2.1 c5.2.2.2 ?_
    obtain ⟨c6, h⟩ := er_ck h
    refine er_geti cx d_ER_forge_14 fd_ER_36 c6 ?_
    refine er_if_ne (tgt := 28) cx d_ER_forge_17 (by decide) (fun b7 => ?_) (fun b7 => ?_)
    · have h := er_iff h b7
      refine er_iconst (v := 0) cx d_ER_forge_28 rfl (by decide) ?_
      obtain rfl := Option.some.inj h
      exact er_iret rt (Or.inr ⟨rfl, Or.inl rfl⟩) d_ER_forge_29 (by decide) (by decide) ⟨rfl, rfl, rfl⟩
    · have h := er_ift h b7
      refine er_aload_n cx d_ER_forge_20 0 rfl ?_
      refine er_iload_n cx d_ER_forge_21 2 rfl ?_
      obtain ⟨q9, e9, h⟩ := er_bd h
      refine er_callV (b := p0) (As := [.inl p2]) (st := []) cx (c_ER_isWellBehaved e9) my_ER_32 c1 ⟨by decide, by decide⟩ rfl (Nat.le_of_ble_eq_true rfl) d_ER_forge_22 ⟨Nat.zero_le _, Nat.zero_le _⟩ rfl ?_
      refine er_if_ne (tgt := 30) cx d_ER_forge_25 (by decide) (fun b10 => ?_) (fun b10 => ?_)
      · have h := er_iff h b10
        refine er_iload_n cx d_ER_forge_30 3 rfl ?_
        obtain ⟨q11, e11, h⟩ := er_bd h
        refine er_callS (As := [.inl p3]) (st := []) cx (c_ER_isSlot e11) my_ER_68 ⟨by decide, by decide⟩ rfl (Nat.le_of_ble_eq_true rfl) d_ER_forge_31 ⟨Nat.zero_le _, Nat.zero_le _⟩ rfl ?_
        refine er_if_eq (tgt := 58) cx d_ER_forge_34 (by decide) (fun b12 => ?_) (fun b12 => ?_)
        · have h := er_ift h b12
          refine er_iconst (v := 0) cx d_ER_forge_58 rfl (by decide) ?_
          obtain rfl := Option.some.inj h
          exact er_iret rt (Or.inr ⟨rfl, Or.inl rfl⟩) d_ER_forge_59 (by decide) (by decide) ⟨rfl, rfl, rfl⟩
        · have h := er_iff h b12
          refine er_aload_n cx d_ER_forge_37 0 rfl ?_
          refine er_iload cx d_ER_forge_38 4 rfl ?_
          obtain ⟨q14, e14, h⟩ := er_bd h
          refine er_callV (b := p0) (As := [.inl p4]) (st := []) cx (c_ER_isNode e14) my_ER_57 c1 ⟨by decide, by decide⟩ rfl (Nat.le_of_ble_eq_true rfl) d_ER_forge_40 ⟨Nat.zero_le _, Nat.zero_le _⟩ rfl ?_
          refine er_if_eq (tgt := 58) cx d_ER_forge_43 (by decide) (fun b15 => ?_) (fun b15 => ?_)
          · have h := er_ift h b15
            refine er_iconst (v := 0) cx d_ER_forge_58 rfl (by decide) ?_
            obtain rfl := Option.some.inj h
            exact er_iret rt (Or.inr ⟨rfl, Or.inl rfl⟩) d_ER_forge_59 (by decide) (by decide) ⟨rfl, rfl, rfl⟩
          · have h := er_iff h b15
            refine er_iload cx d_ER_forge_46 5 rfl ?_
            refine er_if_lt (tgt := 58) cx d_ER_forge_48 (by decide) (fun b17 => ?_) (fun b17 => ?_)
            · have h := er_ift h b17
              refine er_iconst (v := 0) cx d_ER_forge_58 rfl (by decide) ?_
              obtain rfl := Option.some.inj h
              exact er_iret rt (Or.inr ⟨rfl, Or.inl rfl⟩) d_ER_forge_59 (by decide) (by decide) ⟨rfl, rfl, rfl⟩
            · have h := er_iff h b17
              refine er_iload cx d_ER_forge_51 5 rfl ?_
              refine er_bipush (v := 12) cx d_ER_forge_53 (by decide +kernel) (by decide) ?_
              refine er_ic_lt (tgt := 60) cx d_ER_forge_55 (by decide) (fun b19 => ?_) (fun b19 => ?_)
              · have h := er_ift h b19
                refine er_aload_n cx d_ER_forge_60 0 rfl ?_
                refine er_getr cx d_ER_forge_61 fd_ER_25 c1 c4 ?_
                refine er_iload_n cx d_ER_forge_64 2 rfl ?_
                obtain ⟨c21, h⟩ := er_ck h
                refine er_aald cx d_ER_forge_65 c5.1 (by decide) c21.1 c21.2.1 c21.2.2 ?_
                refine er_iload_n cx d_ER_forge_66 1 rfl ?_
                refine er_iload cx d_ER_forge_67 5 rfl ?_
                refine er_iconst (v := 4) cx d_ER_forge_69 rfl (by decide) ?_
                refine er_idiv cx d_ER_forge_70 (by decide) ?_
                refine er_iload_n cx d_ER_forge_71 3 rfl ?_
                refine er_iload cx d_ER_forge_72 4 rfl ?_
                refine er_iload cx d_ER_forge_74 5 rfl ?_
                refine er_iconst (v := 4) cx d_ER_forge_76 rfl (by decide) ?_
                refine er_irem cx d_ER_forge_77 (by decide) ?_
                obtain ⟨q22, e22, h⟩ := er_bd h
                refine er_callS (As := [.inl (er_div p5 4), .inl p3, .inl p4, .inl (er_rem p5 4)]) (st := [.inl p1, .inr (T (T p0 0) p2)]) cx (c_ER_codeOf e22) my_ER_71 ⟨by decide, by decide⟩ rfl (Nat.le_of_ble_eq_true rfl) d_ER_forge_78 ⟨Nat.zero_le _, Nat.zero_le _⟩ rfl ?_
                obtain ⟨c23, h⟩ := er_ck h
                obtain ⟨q23, e23, h⟩ := er_bd h
                refine er_callV (b := T (T p0 0) p2) (As := [.inl p1, .inl q22.1]) (st := []) cx (c_Node_hear e23) my_ER_75 c23 ⟨by decide, by decide⟩ rfl (Nat.le_of_ble_eq_true rfl) d_ER_forge_81 ⟨Nat.zero_le _, Nat.zero_le _⟩ rfl ?_
                refine er_istore cx d_ER_forge_84 (by decide) rfl ?_
                refine er_aload_n cx d_ER_forge_86 1 rfl ?_
                refine er_getr cx d_ER_forge_87 fd_ER_25 c1 c4 ?_
                refine er_iload_n cx d_ER_forge_90 3 rfl ?_
                refine er_aald cx d_ER_forge_91 c5.1 (by decide) c21.1 c21.2.1 c21.2.2 ?_
                obtain ⟨q26, e26, h⟩ := er_bd h
                refine er_callV (b := T (T p0 0) p2) (As := []) (st := []) cx (c_Node_settle e26) my_ER_54 c23 ⟨by decide, by decide⟩ rfl (Nat.le_of_ble_eq_true rfl) d_ER_forge_92 ⟨Nat.zero_le _, Nat.zero_le _⟩ rfl ?_
                refine er_iload cx d_ER_forge_95 0 rfl ?_
                obtain ⟨c27, h⟩ := er_ck h
                obtain rfl := Option.some.inj h
                exact er_iret rt (Or.inr ⟨rfl, c27⟩) d_ER_forge_97 (by decide) (by decide) ⟨rfl, rfl, rfl⟩
              · have h := er_iff h b19
                refine er_iconst (v := 0) cx d_ER_forge_58 rfl (by decide) ?_
                obtain rfl := Option.some.inj h
                exact er_iret rt (Or.inr ⟨rfl, Or.inl rfl⟩) d_ER_forge_59 (by decide) (by decide) ⟨rfl, rfl, rfl⟩
      · have h := er_ift h b10
        refine er_iconst (v := 0) cx d_ER_forge_28 rfl (by decide) ?_
        obtain rfl := Option.some.inj h
        exact er_iret rt (Or.inr ⟨rfl, Or.inl rfl⟩) d_ER_forge_29 (by decide) (by decide) ⟨rfl, rfl, rfl⟩
theorem c_ER_forge {l : Launch} {X : er_X} {r : Int × er_Me} {p0 p1 p2 p3 p4 p5 : Int} {T M : er_Me} (h : f_ER_forge p0 p1 p2 p3 p4 p5 T M = some r) (hok : ∀ v ∈ ([.inr p0, .inl p1, .inl p2, .inl p3, .inl p4, .inl p5] : List er_V), er_ok v) : er_Ct l X y_ER_forge b_ER_forge 7 (some .boolean) rm_ER_forge [.inr p0, .inl p1, .inl p2, .inl p3, .inl p4, .inl p5] T M (some (.inl r.1)) T r.2 :=
  er_ct rfl rfl (Nat.le_of_ble_eq_true rfl) hok (fun K cx rt hin => w_ER_forge cx rt h)
end
section
theorem d_Mo_init_0 : decode b_Mo_init 0 = .ok (.aload_n 0, 1) := by decide +kernel
theorem d_Mo_init_1 : decode b_Mo_init 1 = .ok (.invokespecial 1, 3) := by decide +kernel
theorem d_Mo_init_4 : decode b_Mo_init 4 = .ok (.aload_n 0, 1) := by decide +kernel
theorem d_Mo_init_5 : decode b_Mo_init 5 = .ok (.bipush 7, 2) := by decide +kernel
theorem d_Mo_init_7 : decode b_Mo_init 7 = .ok (.newarray .boolean, 2) := by decide +kernel
theorem d_Mo_init_9 : decode b_Mo_init 9 = .ok (.putfield 7, 3) := by decide +kernel
theorem d_Mo_init_12 : decode b_Mo_init 12 = .ok (.aload_n 0, 1) := by decide +kernel
theorem d_Mo_init_13 : decode b_Mo_init 13 = .ok (.sipush 980, 3) := by decide +kernel
theorem d_Mo_init_16 : decode b_Mo_init 16 = .ok (.newarray .int, 2) := by decide +kernel
theorem d_Mo_init_18 : decode b_Mo_init 18 = .ok (.putfield 13, 3) := by decide +kernel
theorem d_Mo_init_21 : decode b_Mo_init 21 = .ok (.aload_n 0, 1) := by decide +kernel
theorem d_Mo_init_22 : decode b_Mo_init 22 = .ok (.bipush 7, 2) := by decide +kernel
theorem d_Mo_init_24 : decode b_Mo_init 24 = .ok (.newarray .int, 2) := by decide +kernel
theorem d_Mo_init_26 : decode b_Mo_init 26 = .ok (.putfield 17, 3) := by decide +kernel
theorem d_Mo_init_29 : decode b_Mo_init 29 = .ok (.aload_n 0, 1) := by decide +kernel
theorem d_Mo_init_30 : decode b_Mo_init 30 = .ok (.bipush 49, 2) := by decide +kernel
theorem d_Mo_init_32 : decode b_Mo_init 32 = .ok (.newarray .int, 2) := by decide +kernel
theorem d_Mo_init_34 : decode b_Mo_init 34 = .ok (.putfield 20, 3) := by decide +kernel
theorem d_Mo_init_37 : decode b_Mo_init 37 = .ok (.aload_n 0, 1) := by decide +kernel
theorem d_Mo_init_38 : decode b_Mo_init 38 = .ok (.sipush 441, 3) := by decide +kernel
theorem d_Mo_init_41 : decode b_Mo_init 41 = .ok (.newarray .boolean, 2) := by decide +kernel
theorem d_Mo_init_43 : decode b_Mo_init 43 = .ok (.putfield 23, 3) := by decide +kernel
theorem d_Mo_init_46 : decode b_Mo_init 46 = .ok (.aload_n 0, 1) := by decide +kernel
theorem d_Mo_init_47 : decode b_Mo_init 47 = .ok (.sipush 441, 3) := by decide +kernel
theorem d_Mo_init_50 : decode b_Mo_init 50 = .ok (.newarray .boolean, 2) := by decide +kernel
theorem d_Mo_init_52 : decode b_Mo_init 52 = .ok (.putfield 26, 3) := by decide +kernel
theorem d_Mo_init_55 : decode b_Mo_init 55 = .ok (.aload_n 0, 1) := by decide +kernel
theorem d_Mo_init_56 : decode b_Mo_init 56 = .ok (.sipush 441, 3) := by decide +kernel
theorem d_Mo_init_59 : decode b_Mo_init 59 = .ok (.newarray .int, 2) := by decide +kernel
theorem d_Mo_init_61 : decode b_Mo_init 61 = .ok (.putfield 29, 3) := by decide +kernel
theorem d_Mo_init_64 : decode b_Mo_init 64 = .ok (.aload_n 0, 1) := by decide +kernel
theorem d_Mo_init_65 : decode b_Mo_init 65 = .ok (.sipush 441, 3) := by decide +kernel
theorem d_Mo_init_68 : decode b_Mo_init 68 = .ok (.newarray .boolean, 2) := by decide +kernel
theorem d_Mo_init_70 : decode b_Mo_init 70 = .ok (.putfield 32, 3) := by decide +kernel
theorem d_Mo_init_73 : decode b_Mo_init 73 = .ok (.aload_n 0, 1) := by decide +kernel
theorem d_Mo_init_74 : decode b_Mo_init 74 = .ok (.sipush 441, 3) := by decide +kernel
theorem d_Mo_init_77 : decode b_Mo_init 77 = .ok (.newarray .int, 2) := by decide +kernel
theorem d_Mo_init_79 : decode b_Mo_init 79 = .ok (.putfield 35, 3) := by decide +kernel
theorem d_Mo_init_82 : decode b_Mo_init 82 = .ok (.aload_n 0, 1) := by decide +kernel
theorem d_Mo_init_83 : decode b_Mo_init 83 = .ok (.bipush 63, 2) := by decide +kernel
theorem d_Mo_init_85 : decode b_Mo_init 85 = .ok (.newarray .int, 2) := by decide +kernel
theorem d_Mo_init_87 : decode b_Mo_init 87 = .ok (.putfield 38, 3) := by decide +kernel
theorem d_Mo_init_90 : decode b_Mo_init 90 = .ok (.aload_n 0, 1) := by decide +kernel
theorem d_Mo_init_91 : decode b_Mo_init 91 = .ok (.sipush 6174, 3) := by decide +kernel
theorem d_Mo_init_94 : decode b_Mo_init 94 = .ok (.newarray .int, 2) := by decide +kernel
theorem d_Mo_init_96 : decode b_Mo_init 96 = .ok (.putfield 41, 3) := by decide +kernel
theorem d_Mo_init_99 : decode b_Mo_init 99 = .ok (.aload_n 0, 1) := by decide +kernel
theorem d_Mo_init_100 : decode b_Mo_init 100 = .ok (.bipush 7, 2) := by decide +kernel
theorem d_Mo_init_102 : decode b_Mo_init 102 = .ok (.newarray .int, 2) := by decide +kernel
theorem d_Mo_init_104 : decode b_Mo_init 104 = .ok (.putfield 44, 3) := by decide +kernel
theorem d_Mo_init_107 : decode b_Mo_init 107 = .ok (.aload_n 0, 1) := by decide +kernel
theorem d_Mo_init_108 : decode b_Mo_init 108 = .ok (.bipush 7, 2) := by decide +kernel
theorem d_Mo_init_110 : decode b_Mo_init 110 = .ok (.newarray .int, 2) := by decide +kernel
theorem d_Mo_init_112 : decode b_Mo_init 112 = .ok (.putfield 47, 3) := by decide +kernel
theorem d_Mo_init_115 : decode b_Mo_init 115 = .ok (.aload_n 0, 1) := by decide +kernel
theorem d_Mo_init_116 : decode b_Mo_init 116 = .ok (.bipush 7, 2) := by decide +kernel
theorem d_Mo_init_118 : decode b_Mo_init 118 = .ok (.newarray .int, 2) := by decide +kernel
theorem d_Mo_init_120 : decode b_Mo_init 120 = .ok (.putfield 50, 3) := by decide +kernel
theorem d_Mo_init_123 : decode b_Mo_init 123 = .ok (.aload_n 0, 1) := by decide +kernel
theorem d_Mo_init_124 : decode b_Mo_init 124 = .ok (.bipush 7, 2) := by decide +kernel
theorem d_Mo_init_126 : decode b_Mo_init 126 = .ok (.newarray .int, 2) := by decide +kernel
theorem d_Mo_init_128 : decode b_Mo_init 128 = .ok (.putfield 53, 3) := by decide +kernel
theorem d_Mo_init_131 : decode b_Mo_init 131 = .ok (.aload_n 0, 1) := by decide +kernel
theorem d_Mo_init_132 : decode b_Mo_init 132 = .ok (.iconst 4, 1) := by decide +kernel
theorem d_Mo_init_133 : decode b_Mo_init 133 = .ok (.newarray .int, 2) := by decide +kernel
theorem d_Mo_init_135 : decode b_Mo_init 135 = .ok (.putfield 56, 3) := by decide +kernel
theorem d_Mo_init_138 : decode b_Mo_init 138 = .ok (.aload_n 0, 1) := by decide +kernel
theorem d_Mo_init_139 : decode b_Mo_init 139 = .ok (.iload_n 1, 1) := by decide +kernel
theorem d_Mo_init_140 : decode b_Mo_init 140 = .ok (.iconst 4, 1) := by decide +kernel
theorem d_Mo_init_141 : decode b_Mo_init 141 = .ok (.if_icmp .ge 7, 3) := by decide +kernel
theorem d_Mo_init_144 : decode b_Mo_init 144 = .ok (.iconst 4, 1) := by decide +kernel
theorem d_Mo_init_145 : decode b_Mo_init 145 = .ok (.goto 15, 3) := by decide +kernel
theorem d_Mo_init_148 : decode b_Mo_init 148 = .ok (.iload_n 1, 1) := by decide +kernel
theorem d_Mo_init_149 : decode b_Mo_init 149 = .ok (.bipush 7, 2) := by decide +kernel
theorem d_Mo_init_151 : decode b_Mo_init 151 = .ok (.if_icmp .le 8, 3) := by decide +kernel
theorem d_Mo_init_154 : decode b_Mo_init 154 = .ok (.bipush 7, 2) := by decide +kernel
theorem d_Mo_init_156 : decode b_Mo_init 156 = .ok (.goto 4, 3) := by decide +kernel
theorem d_Mo_init_159 : decode b_Mo_init 159 = .ok (.iload_n 1, 1) := by decide +kernel
theorem d_Mo_init_160 : decode b_Mo_init 160 = .ok (.putfield 59, 3) := by decide +kernel
theorem d_Mo_init_163 : decode b_Mo_init 163 = .ok (.aload_n 0, 1) := by decide +kernel
theorem d_Mo_init_164 : decode b_Mo_init 164 = .ok (.aload_n 0, 1) := by decide +kernel
theorem d_Mo_init_165 : decode b_Mo_init 165 = .ok (.getfield 59, 3) := by decide +kernel
theorem d_Mo_init_168 : decode b_Mo_init 168 = .ok (.iconst 1, 1) := by decide +kernel
theorem d_Mo_init_169 : decode b_Mo_init 169 = .ok (.isub, 1) := by decide +kernel
theorem d_Mo_init_170 : decode b_Mo_init 170 = .ok (.iconst 3, 1) := by decide +kernel
theorem d_Mo_init_171 : decode b_Mo_init 171 = .ok (.idiv, 1) := by decide +kernel
theorem d_Mo_init_172 : decode b_Mo_init 172 = .ok (.putfield 63, 3) := by decide +kernel
theorem d_Mo_init_175 : decode b_Mo_init 175 = .ok (.iconst 0, 1) := by decide +kernel
theorem d_Mo_init_176 : decode b_Mo_init 176 = .ok (.istore_n 2, 1) := by decide +kernel
theorem d_Mo_init_177 : decode b_Mo_init 177 = .ok (.iload_n 2, 1) := by decide +kernel
theorem d_Mo_init_178 : decode b_Mo_init 178 = .ok (.bipush 7, 2) := by decide +kernel
theorem d_Mo_init_180 : decode b_Mo_init 180 = .ok (.if_icmp .ge 23, 3) := by decide +kernel
theorem d_Mo_init_183 : decode b_Mo_init 183 = .ok (.aload_n 0, 1) := by decide +kernel
theorem d_Mo_init_184 : decode b_Mo_init 184 = .ok (.getfield 44, 3) := by decide +kernel
theorem d_Mo_init_187 : decode b_Mo_init 187 = .ok (.iload_n 2, 1) := by decide +kernel
theorem d_Mo_init_188 : decode b_Mo_init 188 = .ok (.iconst (-1), 1) := by decide +kernel
theorem d_Mo_init_189 : decode b_Mo_init 189 = .ok (.iastore, 1) := by decide +kernel
theorem d_Mo_init_190 : decode b_Mo_init 190 = .ok (.aload_n 0, 1) := by decide +kernel
theorem d_Mo_init_191 : decode b_Mo_init 191 = .ok (.getfield 50, 3) := by decide +kernel
theorem d_Mo_init_194 : decode b_Mo_init 194 = .ok (.iload_n 2, 1) := by decide +kernel
theorem d_Mo_init_195 : decode b_Mo_init 195 = .ok (.iconst (-1), 1) := by decide +kernel
theorem d_Mo_init_196 : decode b_Mo_init 196 = .ok (.iastore, 1) := by decide +kernel
theorem d_Mo_init_197 : decode b_Mo_init 197 = .ok (.iinc 2 1, 3) := by decide +kernel
theorem d_Mo_init_200 : decode b_Mo_init 200 = .ok (.goto (-23), 3) := by decide +kernel
theorem d_Mo_init_203 : decode b_Mo_init 203 = .ok (.return_, 1) := by decide +kernel
theorem d_Mo_isNode_0 : decode b_Mo_isNode 0 = .ok (.iload_n 1, 1) := by decide +kernel
theorem d_Mo_isNode_1 : decode b_Mo_isNode 1 = .ok (.ifCond .lt 15, 3) := by decide +kernel
theorem d_Mo_isNode_4 : decode b_Mo_isNode 4 = .ok (.iload_n 1, 1) := by decide +kernel
theorem d_Mo_isNode_5 : decode b_Mo_isNode 5 = .ok (.aload_n 0, 1) := by decide +kernel
theorem d_Mo_isNode_6 : decode b_Mo_isNode 6 = .ok (.getfield 59, 3) := by decide +kernel
theorem d_Mo_isNode_9 : decode b_Mo_isNode 9 = .ok (.if_icmp .ge 7, 3) := by decide +kernel
theorem d_Mo_isNode_12 : decode b_Mo_isNode 12 = .ok (.iconst 1, 1) := by decide +kernel
theorem d_Mo_isNode_13 : decode b_Mo_isNode 13 = .ok (.goto 4, 3) := by decide +kernel
theorem d_Mo_isNode_16 : decode b_Mo_isNode 16 = .ok (.iconst 0, 1) := by decide +kernel
theorem d_Mo_isNode_17 : decode b_Mo_isNode 17 = .ok (.ireturn, 1) := by decide +kernel
theorem d_Mo_at_0 : decode b_Mo_at 0 = .ok (.bipush 63, 2) := by decide +kernel
theorem d_Mo_at_2 : decode b_Mo_at 2 = .ok (.iload_n 0, 1) := by decide +kernel
theorem d_Mo_at_3 : decode b_Mo_at 3 = .ok (.imul, 1) := by decide +kernel
theorem d_Mo_at_4 : decode b_Mo_at 4 = .ok (.bipush 7, 2) := by decide +kernel
theorem d_Mo_at_6 : decode b_Mo_at 6 = .ok (.iload_n 1, 1) := by decide +kernel
theorem d_Mo_at_7 : decode b_Mo_at 7 = .ok (.imul, 1) := by decide +kernel
theorem d_Mo_at_8 : decode b_Mo_at 8 = .ok (.iadd, 1) := by decide +kernel
theorem d_Mo_at_9 : decode b_Mo_at 9 = .ok (.iload_n 2, 1) := by decide +kernel
theorem d_Mo_at_10 : decode b_Mo_at 10 = .ok (.iadd, 1) := by decide +kernel
theorem d_Mo_at_11 : decode b_Mo_at 11 = .ok (.ireturn, 1) := by decide +kernel
theorem d_Mo_count_0 : decode b_Mo_count 0 = .ok (.iconst 0, 1) := by decide +kernel
theorem d_Mo_count_1 : decode b_Mo_count 1 = .ok (.istore 6, 2) := by decide +kernel
theorem d_Mo_count_3 : decode b_Mo_count 3 = .ok (.iconst 0, 1) := by decide +kernel
theorem d_Mo_count_4 : decode b_Mo_count 4 = .ok (.istore 7, 2) := by decide +kernel
theorem d_Mo_count_6 : decode b_Mo_count 6 = .ok (.iload 7, 2) := by decide +kernel
theorem d_Mo_count_8 : decode b_Mo_count 8 = .ok (.aload_n 0, 1) := by decide +kernel
theorem d_Mo_count_9 : decode b_Mo_count 9 = .ok (.getfield 59, 3) := by decide +kernel
theorem d_Mo_count_12 : decode b_Mo_count 12 = .ok (.if_icmp .ge 57, 3) := by decide +kernel
theorem d_Mo_count_15 : decode b_Mo_count 15 = .ok (.aload_n 0, 1) := by decide +kernel
theorem d_Mo_count_16 : decode b_Mo_count 16 = .ok (.getfield 41, 3) := by decide +kernel
theorem d_Mo_count_19 : decode b_Mo_count 19 = .ok (.bipush 126, 2) := by decide +kernel
theorem d_Mo_count_21 : decode b_Mo_count 21 = .ok (.bipush 7, 2) := by decide +kernel
theorem d_Mo_count_23 : decode b_Mo_count 23 = .ok (.iload_n 1, 1) := by decide +kernel
theorem d_Mo_count_24 : decode b_Mo_count 24 = .ok (.imul, 1) := by decide +kernel
theorem d_Mo_count_25 : decode b_Mo_count 25 = .ok (.iload 7, 2) := by decide +kernel
theorem d_Mo_count_27 : decode b_Mo_count 27 = .ok (.iadd, 1) := by decide +kernel
theorem d_Mo_count_28 : decode b_Mo_count 28 = .ok (.imul, 1) := by decide +kernel
theorem d_Mo_count_29 : decode b_Mo_count 29 = .ok (.bipush 63, 2) := by decide +kernel
theorem d_Mo_count_31 : decode b_Mo_count 31 = .ok (.iload_n 2, 1) := by decide +kernel
theorem d_Mo_count_32 : decode b_Mo_count 32 = .ok (.iconst 1, 1) := by decide +kernel
theorem d_Mo_count_33 : decode b_Mo_count 33 = .ok (.isub, 1) := by decide +kernel
theorem d_Mo_count_34 : decode b_Mo_count 34 = .ok (.imul, 1) := by decide +kernel
theorem d_Mo_count_35 : decode b_Mo_count 35 = .ok (.iadd, 1) := by decide +kernel
theorem d_Mo_count_36 : decode b_Mo_count 36 = .ok (.bipush 7, 2) := by decide +kernel
theorem d_Mo_count_38 : decode b_Mo_count 38 = .ok (.iload_n 3, 1) := by decide +kernel
theorem d_Mo_count_39 : decode b_Mo_count 39 = .ok (.imul, 1) := by decide +kernel
theorem d_Mo_count_40 : decode b_Mo_count 40 = .ok (.iadd, 1) := by decide +kernel
theorem d_Mo_count_41 : decode b_Mo_count 41 = .ok (.iload 4, 2) := by decide +kernel
theorem d_Mo_count_43 : decode b_Mo_count 43 = .ok (.iadd, 1) := by decide +kernel
theorem d_Mo_count_44 : decode b_Mo_count 44 = .ok (.iaload, 1) := by decide +kernel
theorem d_Mo_count_45 : decode b_Mo_count 45 = .ok (.iload 5, 2) := by decide +kernel
theorem d_Mo_count_47 : decode b_Mo_count 47 = .ok (.iconst 1, 1) := by decide +kernel
theorem d_Mo_count_48 : decode b_Mo_count 48 = .ok (.iadd, 1) := by decide +kernel
theorem d_Mo_count_49 : decode b_Mo_count 49 = .ok (.if_icmp .ne 10, 3) := by decide +kernel
theorem d_Mo_count_52 : decode b_Mo_count 52 = .ok (.iload 6, 2) := by decide +kernel
theorem d_Mo_count_54 : decode b_Mo_count 54 = .ok (.iconst 1, 1) := by decide +kernel
theorem d_Mo_count_55 : decode b_Mo_count 55 = .ok (.iadd, 1) := by decide +kernel
theorem d_Mo_count_56 : decode b_Mo_count 56 = .ok (.goto 5, 3) := by decide +kernel
theorem d_Mo_count_59 : decode b_Mo_count 59 = .ok (.iload 6, 2) := by decide +kernel
theorem d_Mo_count_61 : decode b_Mo_count 61 = .ok (.istore 6, 2) := by decide +kernel
theorem d_Mo_count_63 : decode b_Mo_count 63 = .ok (.iinc 7 1, 3) := by decide +kernel
theorem d_Mo_count_66 : decode b_Mo_count 66 = .ok (.goto (-60), 3) := by decide +kernel
theorem d_Mo_count_69 : decode b_Mo_count 69 = .ok (.iload 6, 2) := by decide +kernel
theorem d_Mo_count_71 : decode b_Mo_count 71 = .ok (.ireturn, 1) := by decide +kernel
theorem d_Mo_firmValue_0 : decode b_Mo_firmValue 0 = .ok (.aload_n 0, 1) := by decide +kernel
theorem d_Mo_firmValue_1 : decode b_Mo_firmValue 1 = .ok (.getfield 56, 3) := by decide +kernel
theorem d_Mo_firmValue_4 : decode b_Mo_firmValue 4 = .ok (.iconst 2, 1) := by decide +kernel
theorem d_Mo_firmValue_5 : decode b_Mo_firmValue 5 = .ok (.iaload, 1) := by decide +kernel
theorem d_Mo_firmValue_6 : decode b_Mo_firmValue 6 = .ok (.iload_n 1, 1) := by decide +kernel
theorem d_Mo_firmValue_7 : decode b_Mo_firmValue 7 = .ok (.if_icmp .lt 7, 3) := by decide +kernel
theorem d_Mo_firmValue_10 : decode b_Mo_firmValue 10 = .ok (.iconst 0, 1) := by decide +kernel
theorem d_Mo_firmValue_11 : decode b_Mo_firmValue 11 = .ok (.goto 18, 3) := by decide +kernel
theorem d_Mo_firmValue_14 : decode b_Mo_firmValue 14 = .ok (.aload_n 0, 1) := by decide +kernel
theorem d_Mo_firmValue_15 : decode b_Mo_firmValue 15 = .ok (.getfield 56, 3) := by decide +kernel
theorem d_Mo_firmValue_18 : decode b_Mo_firmValue 18 = .ok (.iconst 3, 1) := by decide +kernel
theorem d_Mo_firmValue_19 : decode b_Mo_firmValue 19 = .ok (.iaload, 1) := by decide +kernel
theorem d_Mo_firmValue_20 : decode b_Mo_firmValue 20 = .ok (.iload_n 1, 1) := by decide +kernel
theorem d_Mo_firmValue_21 : decode b_Mo_firmValue 21 = .ok (.if_icmp .lt 7, 3) := by decide +kernel
theorem d_Mo_firmValue_24 : decode b_Mo_firmValue 24 = .ok (.iconst 1, 1) := by decide +kernel
theorem d_Mo_firmValue_25 : decode b_Mo_firmValue 25 = .ok (.goto 4, 3) := by decide +kernel
theorem d_Mo_firmValue_28 : decode b_Mo_firmValue 28 = .ok (.iconst (-1), 1) := by decide +kernel
theorem d_Mo_firmValue_29 : decode b_Mo_firmValue 29 = .ok (.ireturn, 1) := by decide +kernel
theorem d_Mo_isSlot_0 : decode b_Mo_isSlot 0 = .ok (.iload_n 0, 1) := by decide +kernel
theorem d_Mo_isSlot_1 : decode b_Mo_isSlot 1 = .ok (.ifCond .lt 13, 3) := by decide +kernel
theorem d_Mo_isSlot_4 : decode b_Mo_isSlot 4 = .ok (.iload_n 0, 1) := by decide +kernel
theorem d_Mo_isSlot_5 : decode b_Mo_isSlot 5 = .ok (.bipush 8, 2) := by decide +kernel
theorem d_Mo_isSlot_7 : decode b_Mo_isSlot 7 = .ok (.if_icmp .gt 7, 3) := by decide +kernel
theorem d_Mo_isSlot_10 : decode b_Mo_isSlot 10 = .ok (.iconst 1, 1) := by decide +kernel
theorem d_Mo_isSlot_11 : decode b_Mo_isSlot 11 = .ok (.goto 4, 3) := by decide +kernel
theorem d_Mo_isSlot_14 : decode b_Mo_isSlot 14 = .ok (.iconst 0, 1) := by decide +kernel
theorem d_Mo_isSlot_15 : decode b_Mo_isSlot 15 = .ok (.ireturn, 1) := by decide +kernel
theorem d_Mo_well_0 : decode b_Mo_well 0 = .ok (.aload_n 0, 1) := by decide +kernel
theorem d_Mo_well_1 : decode b_Mo_well 1 = .ok (.iload_n 1, 1) := by decide +kernel
theorem d_Mo_well_2 : decode b_Mo_well 2 = .ok (.invokevirtual 66, 3) := by decide +kernel
theorem d_Mo_well_5 : decode b_Mo_well 5 = .ok (.ifCond .eq 16, 3) := by decide +kernel
theorem d_Mo_well_8 : decode b_Mo_well 8 = .ok (.aload_n 0, 1) := by decide +kernel
theorem d_Mo_well_9 : decode b_Mo_well 9 = .ok (.getfield 7, 3) := by decide +kernel
theorem d_Mo_well_12 : decode b_Mo_well 12 = .ok (.iload_n 1, 1) := by decide +kernel
theorem d_Mo_well_13 : decode b_Mo_well 13 = .ok (.baload, 1) := by decide +kernel
theorem d_Mo_well_14 : decode b_Mo_well 14 = .ok (.ifCond .ne 7, 3) := by decide +kernel
theorem d_Mo_well_17 : decode b_Mo_well 17 = .ok (.iconst 1, 1) := by decide +kernel
theorem d_Mo_well_18 : decode b_Mo_well 18 = .ok (.goto 4, 3) := by decide +kernel
theorem d_Mo_well_21 : decode b_Mo_well 21 = .ok (.iconst 0, 1) := by decide +kernel
theorem d_Mo_well_22 : decode b_Mo_well 22 = .ok (.ireturn, 1) := by decide +kernel
theorem d_Mo_send_0 : decode b_Mo_send 0 = .ok (.aload_n 0, 1) := by decide +kernel
theorem d_Mo_send_1 : decode b_Mo_send 1 = .ok (.getfield 13, 3) := by decide +kernel
theorem d_Mo_send_4 : decode b_Mo_send 4 = .ok (.sipush 140, 3) := by decide +kernel
theorem d_Mo_send_7 : decode b_Mo_send 7 = .ok (.iload_n 1, 1) := by decide +kernel
theorem d_Mo_send_8 : decode b_Mo_send 8 = .ok (.imul, 1) := by decide +kernel
theorem d_Mo_send_9 : decode b_Mo_send 9 = .ok (.aload_n 0, 1) := by decide +kernel
theorem d_Mo_send_10 : decode b_Mo_send 10 = .ok (.getfield 17, 3) := by decide +kernel
theorem d_Mo_send_13 : decode b_Mo_send 13 = .ok (.iload_n 1, 1) := by decide +kernel
theorem d_Mo_send_14 : decode b_Mo_send 14 = .ok (.iaload, 1) := by decide +kernel
theorem d_Mo_send_15 : decode b_Mo_send 15 = .ok (.iadd, 1) := by decide +kernel
theorem d_Mo_send_16 : decode b_Mo_send 16 = .ok (.sipush 1000, 3) := by decide +kernel
theorem d_Mo_send_19 : decode b_Mo_send 19 = .ok (.iload_n 3, 1) := by decide +kernel
theorem d_Mo_send_20 : decode b_Mo_send 20 = .ok (.imul, 1) := by decide +kernel
theorem d_Mo_send_21 : decode b_Mo_send 21 = .ok (.bipush 100, 2) := by decide +kernel
theorem d_Mo_send_23 : decode b_Mo_send 23 = .ok (.iload 4, 2) := by decide +kernel
theorem d_Mo_send_25 : decode b_Mo_send 25 = .ok (.imul, 1) := by decide +kernel
theorem d_Mo_send_26 : decode b_Mo_send 26 = .ok (.iadd, 1) := by decide +kernel
theorem d_Mo_send_27 : decode b_Mo_send 27 = .ok (.bipush 10, 2) := by decide +kernel
theorem d_Mo_send_29 : decode b_Mo_send 29 = .ok (.iload_n 2, 1) := by decide +kernel
theorem d_Mo_send_30 : decode b_Mo_send 30 = .ok (.imul, 1) := by decide +kernel
theorem d_Mo_send_31 : decode b_Mo_send 31 = .ok (.iadd, 1) := by decide +kernel
theorem d_Mo_send_32 : decode b_Mo_send 32 = .ok (.iload 5, 2) := by decide +kernel
theorem d_Mo_send_34 : decode b_Mo_send 34 = .ok (.iadd, 1) := by decide +kernel
theorem d_Mo_send_35 : decode b_Mo_send 35 = .ok (.iastore, 1) := by decide +kernel
theorem d_Mo_send_36 : decode b_Mo_send 36 = .ok (.aload_n 0, 1) := by decide +kernel
theorem d_Mo_send_37 : decode b_Mo_send 37 = .ok (.getfield 17, 3) := by decide +kernel
theorem d_Mo_send_40 : decode b_Mo_send 40 = .ok (.iload_n 1, 1) := by decide +kernel
theorem d_Mo_send_41 : decode b_Mo_send 41 = .ok (.aload_n 0, 1) := by decide +kernel
theorem d_Mo_send_42 : decode b_Mo_send 42 = .ok (.getfield 17, 3) := by decide +kernel
theorem d_Mo_send_45 : decode b_Mo_send 45 = .ok (.iload_n 1, 1) := by decide +kernel
theorem d_Mo_send_46 : decode b_Mo_send 46 = .ok (.iaload, 1) := by decide +kernel
theorem d_Mo_send_47 : decode b_Mo_send 47 = .ok (.iconst 1, 1) := by decide +kernel
theorem d_Mo_send_48 : decode b_Mo_send 48 = .ok (.iadd, 1) := by decide +kernel
theorem d_Mo_send_49 : decode b_Mo_send 49 = .ok (.iastore, 1) := by decide +kernel
theorem d_Mo_send_50 : decode b_Mo_send 50 = .ok (.iload_n 2, 1) := by decide +kernel
theorem d_Mo_send_51 : decode b_Mo_send 51 = .ok (.iconst 2, 1) := by decide +kernel
theorem d_Mo_send_52 : decode b_Mo_send 52 = .ok (.if_icmp .ne 16, 3) := by decide +kernel
theorem d_Mo_send_55 : decode b_Mo_send 55 = .ok (.aload_n 0, 1) := by decide +kernel
theorem d_Mo_send_56 : decode b_Mo_send 56 = .ok (.getfield 26, 3) := by decide +kernel
theorem d_Mo_send_59 : decode b_Mo_send 59 = .ok (.iload_n 1, 1) := by decide +kernel
theorem d_Mo_send_60 : decode b_Mo_send 60 = .ok (.iload_n 3, 1) := by decide +kernel
theorem d_Mo_send_61 : decode b_Mo_send 61 = .ok (.iload 4, 2) := by decide +kernel
theorem d_Mo_send_63 : decode b_Mo_send 63 = .ok (.invokestatic 70, 3) := by decide +kernel
theorem d_Mo_send_66 : decode b_Mo_send 66 = .ok (.iconst 1, 1) := by decide +kernel
theorem d_Mo_send_67 : decode b_Mo_send 67 = .ok (.bastore, 1) := by decide +kernel
theorem d_Mo_send_68 : decode b_Mo_send 68 = .ok (.return_, 1) := by decide +kernel
theorem d_Mo_setDoes_0 : decode b_Mo_setDoes 0 = .ok (.iconst 0, 1) := by decide +kernel
theorem d_Mo_setDoes_1 : decode b_Mo_setDoes 1 = .ok (.istore 5, 2) := by decide +kernel
theorem d_Mo_setDoes_3 : decode b_Mo_setDoes 3 = .ok (.iload 5, 2) := by decide +kernel
theorem d_Mo_setDoes_5 : decode b_Mo_setDoes 5 = .ok (.iconst 4, 1) := by decide +kernel
theorem d_Mo_setDoes_6 : decode b_Mo_setDoes 6 = .ok (.if_icmp .ge 17, 3) := by decide +kernel
theorem d_Mo_setDoes_9 : decode b_Mo_setDoes 9 = .ok (.aload_n 0, 1) := by decide +kernel
theorem d_Mo_setDoes_10 : decode b_Mo_setDoes 10 = .ok (.getfield 56, 3) := by decide +kernel
theorem d_Mo_setDoes_13 : decode b_Mo_setDoes 13 = .ok (.iload 5, 2) := by decide +kernel
theorem d_Mo_setDoes_15 : decode b_Mo_setDoes 15 = .ok (.iconst 0, 1) := by decide +kernel
theorem d_Mo_setDoes_16 : decode b_Mo_setDoes 16 = .ok (.iastore, 1) := by decide +kernel
theorem d_Mo_setDoes_17 : decode b_Mo_setDoes 17 = .ok (.iinc 5 1, 3) := by decide +kernel
theorem d_Mo_setDoes_20 : decode b_Mo_setDoes 20 = .ok (.goto (-17), 3) := by decide +kernel
theorem d_Mo_setDoes_23 : decode b_Mo_setDoes 23 = .ok (.iconst 0, 1) := by decide +kernel
theorem d_Mo_setDoes_24 : decode b_Mo_setDoes 24 = .ok (.istore 5, 2) := by decide +kernel
theorem d_Mo_setDoes_26 : decode b_Mo_setDoes 26 = .ok (.iconst 0, 1) := by decide +kernel
theorem d_Mo_setDoes_27 : decode b_Mo_setDoes 27 = .ok (.istore 6, 2) := by decide +kernel
theorem d_Mo_setDoes_29 : decode b_Mo_setDoes 29 = .ok (.iload 6, 2) := by decide +kernel
theorem d_Mo_setDoes_31 : decode b_Mo_setDoes 31 = .ok (.aload_n 0, 1) := by decide +kernel
theorem d_Mo_setDoes_32 : decode b_Mo_setDoes 32 = .ok (.getfield 38, 3) := by decide +kernel
theorem d_Mo_setDoes_35 : decode b_Mo_setDoes 35 = .ok (.bipush 9, 2) := by decide +kernel
theorem d_Mo_setDoes_37 : decode b_Mo_setDoes 37 = .ok (.iload_n 1, 1) := by decide +kernel
theorem d_Mo_setDoes_38 : decode b_Mo_setDoes 38 = .ok (.imul, 1) := by decide +kernel
theorem d_Mo_setDoes_39 : decode b_Mo_setDoes 39 = .ok (.iload_n 2, 1) := by decide +kernel
theorem d_Mo_setDoes_40 : decode b_Mo_setDoes 40 = .ok (.iadd, 1) := by decide +kernel
theorem d_Mo_setDoes_41 : decode b_Mo_setDoes 41 = .ok (.iaload, 1) := by decide +kernel
theorem d_Mo_setDoes_42 : decode b_Mo_setDoes 42 = .ok (.if_icmp .ge 67, 3) := by decide +kernel
theorem d_Mo_setDoes_45 : decode b_Mo_setDoes 45 = .ok (.iload_n 3, 1) := by decide +kernel
theorem d_Mo_setDoes_46 : decode b_Mo_setDoes 46 = .ok (.iload 6, 2) := by decide +kernel
theorem d_Mo_setDoes_48 : decode b_Mo_setDoes 48 = .ok (.ishr, 1) := by decide +kernel
theorem d_Mo_setDoes_49 : decode b_Mo_setDoes 49 = .ok (.iconst 1, 1) := by decide +kernel
theorem d_Mo_setDoes_50 : decode b_Mo_setDoes 50 = .ok (.iand, 1) := by decide +kernel
theorem d_Mo_setDoes_51 : decode b_Mo_setDoes 51 = .ok (.iconst 1, 1) := by decide +kernel
theorem d_Mo_setDoes_52 : decode b_Mo_setDoes 52 = .ok (.if_icmp .ne 51, 3) := by decide +kernel
theorem d_Mo_setDoes_55 : decode b_Mo_setDoes 55 = .ok (.aload_n 0, 1) := by decide +kernel
theorem d_Mo_setDoes_56 : decode b_Mo_setDoes 56 = .ok (.getfield 29, 3) := by decide +kernel
theorem d_Mo_setDoes_59 : decode b_Mo_setDoes 59 = .ok (.iload_n 1, 1) := by decide +kernel
theorem d_Mo_setDoes_60 : decode b_Mo_setDoes 60 = .ok (.iload_n 2, 1) := by decide +kernel
theorem d_Mo_setDoes_61 : decode b_Mo_setDoes 61 = .ok (.aload_n 0, 1) := by decide +kernel
theorem d_Mo_setDoes_62 : decode b_Mo_setDoes 62 = .ok (.getfield 35, 3) := by decide +kernel
theorem d_Mo_setDoes_65 : decode b_Mo_setDoes 65 = .ok (.iload_n 1, 1) := by decide +kernel
theorem d_Mo_setDoes_66 : decode b_Mo_setDoes 66 = .ok (.iload_n 2, 1) := by decide +kernel
theorem d_Mo_setDoes_67 : decode b_Mo_setDoes 67 = .ok (.iload 6, 2) := by decide +kernel
theorem d_Mo_setDoes_69 : decode b_Mo_setDoes 69 = .ok (.invokestatic 70, 3) := by decide +kernel
theorem d_Mo_setDoes_72 : decode b_Mo_setDoes 72 = .ok (.iaload, 1) := by decide +kernel
theorem d_Mo_setDoes_73 : decode b_Mo_setDoes 73 = .ok (.invokestatic 70, 3) := by decide +kernel
theorem d_Mo_setDoes_76 : decode b_Mo_setDoes 76 = .ok (.iaload, 1) := by decide +kernel
theorem d_Mo_setDoes_77 : decode b_Mo_setDoes 77 = .ok (.iconst 1, 1) := by decide +kernel
theorem d_Mo_setDoes_78 : decode b_Mo_setDoes 78 = .ok (.isub, 1) := by decide +kernel
theorem d_Mo_setDoes_79 : decode b_Mo_setDoes 79 = .ok (.istore 7, 2) := by decide +kernel
theorem d_Mo_setDoes_81 : decode b_Mo_setDoes 81 = .ok (.aload_n 0, 1) := by decide +kernel
theorem d_Mo_setDoes_82 : decode b_Mo_setDoes 82 = .ok (.getfield 56, 3) := by decide +kernel
theorem d_Mo_setDoes_85 : decode b_Mo_setDoes 85 = .ok (.iload 7, 2) := by decide +kernel
theorem d_Mo_setDoes_87 : decode b_Mo_setDoes 87 = .ok (.aload_n 0, 1) := by decide +kernel
theorem d_Mo_setDoes_88 : decode b_Mo_setDoes 88 = .ok (.getfield 56, 3) := by decide +kernel
theorem d_Mo_setDoes_91 : decode b_Mo_setDoes 91 = .ok (.iload 7, 2) := by decide +kernel
theorem d_Mo_setDoes_93 : decode b_Mo_setDoes 93 = .ok (.iaload, 1) := by decide +kernel
theorem d_Mo_setDoes_94 : decode b_Mo_setDoes 94 = .ok (.iconst 1, 1) := by decide +kernel
theorem d_Mo_setDoes_95 : decode b_Mo_setDoes 95 = .ok (.iadd, 1) := by decide +kernel
theorem d_Mo_setDoes_96 : decode b_Mo_setDoes 96 = .ok (.iastore, 1) := by decide +kernel
theorem d_Mo_setDoes_97 : decode b_Mo_setDoes 97 = .ok (.iload 5, 2) := by decide +kernel
theorem d_Mo_setDoes_99 : decode b_Mo_setDoes 99 = .ok (.iconst 1, 1) := by decide +kernel
theorem d_Mo_setDoes_100 : decode b_Mo_setDoes 100 = .ok (.iadd, 1) := by decide +kernel
theorem d_Mo_setDoes_101 : decode b_Mo_setDoes 101 = .ok (.istore 5, 2) := by decide +kernel
theorem d_Mo_setDoes_103 : decode b_Mo_setDoes 103 = .ok (.iinc 6 1, 3) := by decide +kernel
theorem d_Mo_setDoes_106 : decode b_Mo_setDoes 106 = .ok (.goto (-77), 3) := by decide +kernel
theorem d_Mo_setDoes_109 : decode b_Mo_setDoes 109 = .ok (.iload 5, 2) := by decide +kernel
theorem d_Mo_setDoes_111 : decode b_Mo_setDoes 111 = .ok (.aload_n 0, 1) := by decide +kernel
theorem d_Mo_setDoes_112 : decode b_Mo_setDoes 112 = .ok (.getfield 59, 3) := by decide +kernel
theorem d_Mo_setDoes_115 : decode b_Mo_setDoes 115 = .ok (.aload_n 0, 1) := by decide +kernel
theorem d_Mo_setDoes_116 : decode b_Mo_setDoes 116 = .ok (.getfield 63, 3) := by decide +kernel
theorem d_Mo_setDoes_119 : decode b_Mo_setDoes 119 = .ok (.isub, 1) := by decide +kernel
theorem d_Mo_setDoes_120 : decode b_Mo_setDoes 120 = .ok (.if_icmp .eq 5, 3) := by decide +kernel
theorem d_Mo_setDoes_123 : decode b_Mo_setDoes 123 = .ok (.iconst 0, 1) := by decide +kernel
theorem d_Mo_setDoes_124 : decode b_Mo_setDoes 124 = .ok (.ireturn, 1) := by decide +kernel
theorem d_Mo_setDoes_125 : decode b_Mo_setDoes 125 = .ok (.iload_n 2, 1) := by decide +kernel
theorem d_Mo_setDoes_126 : decode b_Mo_setDoes 126 = .ok (.iconst 1, 1) := by decide +kernel
theorem d_Mo_setDoes_127 : decode b_Mo_setDoes 127 = .ok (.iadd, 1) := by decide +kernel
theorem d_Mo_setDoes_128 : decode b_Mo_setDoes 128 = .ok (.iconst 3, 1) := by decide +kernel
theorem d_Mo_setDoes_129 : decode b_Mo_setDoes 129 = .ok (.irem, 1) := by decide +kernel
theorem d_Mo_setDoes_130 : decode b_Mo_setDoes 130 = .ok (.istore 6, 2) := by decide +kernel
theorem d_Mo_setDoes_132 : decode b_Mo_setDoes 132 = .ok (.iload 6, 2) := by decide +kernel
theorem d_Mo_setDoes_134 : decode b_Mo_setDoes 134 = .ok (.iconst 1, 1) := by decide +kernel
theorem d_Mo_setDoes_135 : decode b_Mo_setDoes 135 = .ok (.if_icmp .ne 41, 3) := by decide +kernel
theorem d_Mo_setDoes_138 : decode b_Mo_setDoes 138 = .ok (.iconst 2, 1) := by decide +kernel
theorem d_Mo_setDoes_139 : decode b_Mo_setDoes 139 = .ok (.aload_n 0, 1) := by decide +kernel
theorem d_Mo_setDoes_140 : decode b_Mo_setDoes 140 = .ok (.getfield 56, 3) := by decide +kernel
theorem d_Mo_setDoes_143 : decode b_Mo_setDoes 143 = .ok (.iload 4, 2) := by decide +kernel
theorem d_Mo_setDoes_145 : decode b_Mo_setDoes 145 = .ok (.iaload, 1) := by decide +kernel
theorem d_Mo_setDoes_146 : decode b_Mo_setDoes 146 = .ok (.imul, 1) := by decide +kernel
theorem d_Mo_setDoes_147 : decode b_Mo_setDoes 147 = .ok (.iload 5, 2) := by decide +kernel
theorem d_Mo_setDoes_149 : decode b_Mo_setDoes 149 = .ok (.if_icmp .gt 21, 3) := by decide +kernel
theorem d_Mo_setDoes_152 : decode b_Mo_setDoes 152 = .ok (.iload 4, 2) := by decide +kernel
theorem d_Mo_setDoes_154 : decode b_Mo_setDoes 154 = .ok (.ifCond .ne 20, 3) := by decide +kernel
theorem d_Mo_setDoes_157 : decode b_Mo_setDoes 157 = .ok (.iconst 2, 1) := by decide +kernel
theorem d_Mo_setDoes_158 : decode b_Mo_setDoes 158 = .ok (.aload_n 0, 1) := by decide +kernel
theorem d_Mo_setDoes_159 : decode b_Mo_setDoes 159 = .ok (.getfield 56, 3) := by decide +kernel
theorem d_Mo_setDoes_162 : decode b_Mo_setDoes 162 = .ok (.iconst 0, 1) := by decide +kernel
theorem d_Mo_setDoes_163 : decode b_Mo_setDoes 163 = .ok (.iaload, 1) := by decide +kernel
theorem d_Mo_setDoes_164 : decode b_Mo_setDoes 164 = .ok (.imul, 1) := by decide +kernel
theorem d_Mo_setDoes_165 : decode b_Mo_setDoes 165 = .ok (.iload 5, 2) := by decide +kernel
theorem d_Mo_setDoes_167 : decode b_Mo_setDoes 167 = .ok (.if_icmp .ne 7, 3) := by decide +kernel
theorem d_Mo_setDoes_170 : decode b_Mo_setDoes 170 = .ok (.iconst 1, 1) := by decide +kernel
theorem d_Mo_setDoes_171 : decode b_Mo_setDoes 171 = .ok (.goto 4, 3) := by decide +kernel
theorem d_Mo_setDoes_174 : decode b_Mo_setDoes 174 = .ok (.iconst 0, 1) := by decide +kernel
theorem d_Mo_setDoes_175 : decode b_Mo_setDoes 175 = .ok (.ireturn, 1) := by decide +kernel
theorem d_Mo_setDoes_176 : decode b_Mo_setDoes 176 = .ok (.iload 6, 2) := by decide +kernel
theorem d_Mo_setDoes_178 : decode b_Mo_setDoes 178 = .ok (.iconst 2, 1) := by decide +kernel
theorem d_Mo_setDoes_179 : decode b_Mo_setDoes 179 = .ok (.if_icmp .ne 71, 3) := by decide +kernel
theorem d_Mo_setDoes_182 : decode b_Mo_setDoes 182 = .ok (.iload 4, 2) := by decide +kernel
theorem d_Mo_setDoes_184 : decode b_Mo_setDoes 184 = .ok (.iconst 1, 1) := by decide +kernel
theorem d_Mo_setDoes_185 : decode b_Mo_setDoes 185 = .ok (.if_icmp .le 29, 3) := by decide +kernel
theorem d_Mo_setDoes_188 : decode b_Mo_setDoes 188 = .ok (.iconst 2, 1) := by decide +kernel
theorem d_Mo_setDoes_189 : decode b_Mo_setDoes 189 = .ok (.aload_n 0, 1) := by decide +kernel
theorem d_Mo_setDoes_190 : decode b_Mo_setDoes 190 = .ok (.getfield 56, 3) := by decide +kernel
theorem d_Mo_setDoes_193 : decode b_Mo_setDoes 193 = .ok (.iload 4, 2) := by decide +kernel
theorem d_Mo_setDoes_195 : decode b_Mo_setDoes 195 = .ok (.iconst 2, 1) := by decide +kernel
theorem d_Mo_setDoes_196 : decode b_Mo_setDoes 196 = .ok (.isub, 1) := by decide +kernel
theorem d_Mo_setDoes_197 : decode b_Mo_setDoes 197 = .ok (.iaload, 1) := by decide +kernel
theorem d_Mo_setDoes_198 : decode b_Mo_setDoes 198 = .ok (.imul, 1) := by decide +kernel
theorem d_Mo_setDoes_199 : decode b_Mo_setDoes 199 = .ok (.aload_n 0, 1) := by decide +kernel
theorem d_Mo_setDoes_200 : decode b_Mo_setDoes 200 = .ok (.getfield 59, 3) := by decide +kernel
theorem d_Mo_setDoes_203 : decode b_Mo_setDoes 203 = .ok (.if_icmp .le 7, 3) := by decide +kernel
theorem d_Mo_setDoes_206 : decode b_Mo_setDoes 206 = .ok (.iconst 1, 1) := by decide +kernel
theorem d_Mo_setDoes_207 : decode b_Mo_setDoes 207 = .ok (.goto 42, 3) := by decide +kernel
theorem d_Mo_setDoes_210 : decode b_Mo_setDoes 210 = .ok (.iconst 0, 1) := by decide +kernel
theorem d_Mo_setDoes_211 : decode b_Mo_setDoes 211 = .ok (.goto 38, 3) := by decide +kernel
theorem d_Mo_setDoes_214 : decode b_Mo_setDoes 214 = .ok (.iconst 2, 1) := by decide +kernel
theorem d_Mo_setDoes_215 : decode b_Mo_setDoes 215 = .ok (.aload_n 0, 1) := by decide +kernel
theorem d_Mo_setDoes_216 : decode b_Mo_setDoes 216 = .ok (.getfield 56, 3) := by decide +kernel
theorem d_Mo_setDoes_219 : decode b_Mo_setDoes 219 = .ok (.iconst 0, 1) := by decide +kernel
theorem d_Mo_setDoes_220 : decode b_Mo_setDoes 220 = .ok (.iaload, 1) := by decide +kernel
theorem d_Mo_setDoes_221 : decode b_Mo_setDoes 221 = .ok (.imul, 1) := by decide +kernel
theorem d_Mo_setDoes_222 : decode b_Mo_setDoes 222 = .ok (.aload_n 0, 1) := by decide +kernel
theorem d_Mo_setDoes_223 : decode b_Mo_setDoes 223 = .ok (.getfield 59, 3) := by decide +kernel
theorem d_Mo_setDoes_226 : decode b_Mo_setDoes 226 = .ok (.if_icmp .gt 22, 3) := by decide +kernel
theorem d_Mo_setDoes_229 : decode b_Mo_setDoes 229 = .ok (.iconst 2, 1) := by decide +kernel
theorem d_Mo_setDoes_230 : decode b_Mo_setDoes 230 = .ok (.aload_n 0, 1) := by decide +kernel
theorem d_Mo_setDoes_231 : decode b_Mo_setDoes 231 = .ok (.getfield 56, 3) := by decide +kernel
theorem d_Mo_setDoes_234 : decode b_Mo_setDoes 234 = .ok (.iconst 1, 1) := by decide +kernel
theorem d_Mo_setDoes_235 : decode b_Mo_setDoes 235 = .ok (.iaload, 1) := by decide +kernel
theorem d_Mo_setDoes_236 : decode b_Mo_setDoes 236 = .ok (.imul, 1) := by decide +kernel
theorem d_Mo_setDoes_237 : decode b_Mo_setDoes 237 = .ok (.aload_n 0, 1) := by decide +kernel
theorem d_Mo_setDoes_238 : decode b_Mo_setDoes 238 = .ok (.getfield 59, 3) := by decide +kernel
theorem d_Mo_setDoes_241 : decode b_Mo_setDoes 241 = .ok (.if_icmp .gt 7, 3) := by decide +kernel
theorem d_Mo_setDoes_244 : decode b_Mo_setDoes 244 = .ok (.iconst 1, 1) := by decide +kernel
theorem d_Mo_setDoes_245 : decode b_Mo_setDoes 245 = .ok (.goto 4, 3) := by decide +kernel
theorem d_Mo_setDoes_248 : decode b_Mo_setDoes 248 = .ok (.iconst 0, 1) := by decide +kernel
theorem d_Mo_setDoes_249 : decode b_Mo_setDoes 249 = .ok (.ireturn, 1) := by decide +kernel
theorem d_Mo_setDoes_250 : decode b_Mo_setDoes 250 = .ok (.aload_n 0, 1) := by decide +kernel
theorem d_Mo_setDoes_251 : decode b_Mo_setDoes 251 = .ok (.getfield 56, 3) := by decide +kernel
theorem d_Mo_setDoes_254 : decode b_Mo_setDoes 254 = .ok (.iload 4, 2) := by decide +kernel
theorem d_Mo_setDoes_256 : decode b_Mo_setDoes 256 = .ok (.iconst 2, 1) := by decide +kernel
theorem d_Mo_setDoes_257 : decode b_Mo_setDoes 257 = .ok (.iadd, 1) := by decide +kernel
theorem d_Mo_setDoes_258 : decode b_Mo_setDoes 258 = .ok (.iaload, 1) := by decide +kernel
theorem d_Mo_setDoes_259 : decode b_Mo_setDoes 259 = .ok (.aload_n 0, 1) := by decide +kernel
theorem d_Mo_setDoes_260 : decode b_Mo_setDoes 260 = .ok (.getfield 63, 3) := by decide +kernel
theorem d_Mo_setDoes_263 : decode b_Mo_setDoes 263 = .ok (.if_icmp .gt 29, 3) := by decide +kernel
theorem d_Mo_setDoes_266 : decode b_Mo_setDoes 266 = .ok (.aload_n 0, 1) := by decide +kernel
theorem d_Mo_setDoes_267 : decode b_Mo_setDoes 267 = .ok (.getfield 56, 3) := by decide +kernel
theorem d_Mo_setDoes_270 : decode b_Mo_setDoes 270 = .ok (.iconst 2, 1) := by decide +kernel
theorem d_Mo_setDoes_271 : decode b_Mo_setDoes 271 = .ok (.iaload, 1) := by decide +kernel
theorem d_Mo_setDoes_272 : decode b_Mo_setDoes 272 = .ok (.aload_n 0, 1) := by decide +kernel
theorem d_Mo_setDoes_273 : decode b_Mo_setDoes 273 = .ok (.getfield 63, 3) := by decide +kernel
theorem d_Mo_setDoes_276 : decode b_Mo_setDoes 276 = .ok (.if_icmp .gt 20, 3) := by decide +kernel
theorem d_Mo_setDoes_279 : decode b_Mo_setDoes 279 = .ok (.aload_n 0, 1) := by decide +kernel
theorem d_Mo_setDoes_280 : decode b_Mo_setDoes 280 = .ok (.getfield 56, 3) := by decide +kernel
theorem d_Mo_setDoes_283 : decode b_Mo_setDoes 283 = .ok (.iconst 3, 1) := by decide +kernel
theorem d_Mo_setDoes_284 : decode b_Mo_setDoes 284 = .ok (.iaload, 1) := by decide +kernel
theorem d_Mo_setDoes_285 : decode b_Mo_setDoes 285 = .ok (.aload_n 0, 1) := by decide +kernel
theorem d_Mo_setDoes_286 : decode b_Mo_setDoes 286 = .ok (.getfield 63, 3) := by decide +kernel
theorem d_Mo_setDoes_289 : decode b_Mo_setDoes 289 = .ok (.if_icmp .gt 7, 3) := by decide +kernel
theorem d_Mo_setDoes_292 : decode b_Mo_setDoes 292 = .ok (.iconst 1, 1) := by decide +kernel
theorem d_Mo_setDoes_293 : decode b_Mo_setDoes 293 = .ok (.goto 4, 3) := by decide +kernel
theorem d_Mo_setDoes_296 : decode b_Mo_setDoes 296 = .ok (.iconst 0, 1) := by decide +kernel
theorem d_Mo_setDoes_297 : decode b_Mo_setDoes 297 = .ok (.ireturn, 1) := by decide +kernel
theorem d_Mo_afterFirm_0 : decode b_Mo_afterFirm 0 = .ok (.aload_n 0, 1) := by decide +kernel
theorem d_Mo_afterFirm_1 : decode b_Mo_afterFirm 1 = .ok (.iconst 2, 1) := by decide +kernel
theorem d_Mo_afterFirm_2 : decode b_Mo_afterFirm 2 = .ok (.aload_n 0, 1) := by decide +kernel
theorem d_Mo_afterFirm_3 : decode b_Mo_afterFirm 3 = .ok (.getfield 63, 3) := by decide +kernel
theorem d_Mo_afterFirm_6 : decode b_Mo_afterFirm 6 = .ok (.imul, 1) := by decide +kernel
theorem d_Mo_afterFirm_7 : decode b_Mo_afterFirm 7 = .ok (.iconst 1, 1) := by decide +kernel
theorem d_Mo_afterFirm_8 : decode b_Mo_afterFirm 8 = .ok (.iadd, 1) := by decide +kernel
theorem d_Mo_afterFirm_9 : decode b_Mo_afterFirm 9 = .ok (.invokevirtual 97, 3) := by decide +kernel
theorem d_Mo_afterFirm_12 : decode b_Mo_afterFirm 12 = .ok (.istore_n 3, 1) := by decide +kernel
theorem d_Mo_afterFirm_13 : decode b_Mo_afterFirm 13 = .ok (.iload_n 3, 1) := by decide +kernel
theorem d_Mo_afterFirm_14 : decode b_Mo_afterFirm 14 = .ok (.ifCond .lt 31, 3) := by decide +kernel
theorem d_Mo_afterFirm_17 : decode b_Mo_afterFirm 17 = .ok (.aload_n 0, 1) := by decide +kernel
theorem d_Mo_afterFirm_18 : decode b_Mo_afterFirm 18 = .ok (.getfield 50, 3) := by decide +kernel
theorem d_Mo_afterFirm_21 : decode b_Mo_afterFirm 21 = .ok (.iload_n 1, 1) := by decide +kernel
theorem d_Mo_afterFirm_22 : decode b_Mo_afterFirm 22 = .ok (.aload_n 0, 1) := by decide +kernel
theorem d_Mo_afterFirm_23 : decode b_Mo_afterFirm 23 = .ok (.getfield 50, 3) := by decide +kernel
theorem d_Mo_afterFirm_26 : decode b_Mo_afterFirm 26 = .ok (.iload_n 1, 1) := by decide +kernel
theorem d_Mo_afterFirm_27 : decode b_Mo_afterFirm 27 = .ok (.iaload, 1) := by decide +kernel
theorem d_Mo_afterFirm_28 : decode b_Mo_afterFirm 28 = .ok (.iconst (-1), 1) := by decide +kernel
theorem d_Mo_afterFirm_29 : decode b_Mo_afterFirm 29 = .ok (.if_icmp .ne 7, 3) := by decide +kernel
theorem d_Mo_afterFirm_32 : decode b_Mo_afterFirm 32 = .ok (.iload_n 3, 1) := by decide +kernel
theorem d_Mo_afterFirm_33 : decode b_Mo_afterFirm 33 = .ok (.goto 9, 3) := by decide +kernel
theorem d_Mo_afterFirm_36 : decode b_Mo_afterFirm 36 = .ok (.aload_n 0, 1) := by decide +kernel
theorem d_Mo_afterFirm_37 : decode b_Mo_afterFirm 37 = .ok (.getfield 50, 3) := by decide +kernel
theorem d_Mo_afterFirm_40 : decode b_Mo_afterFirm 40 = .ok (.iload_n 1, 1) := by decide +kernel
theorem d_Mo_afterFirm_41 : decode b_Mo_afterFirm 41 = .ok (.iaload, 1) := by decide +kernel
theorem d_Mo_afterFirm_42 : decode b_Mo_afterFirm 42 = .ok (.iastore, 1) := by decide +kernel
theorem d_Mo_afterFirm_43 : decode b_Mo_afterFirm 43 = .ok (.iload_n 3, 1) := by decide +kernel
theorem d_Mo_afterFirm_44 : decode b_Mo_afterFirm 44 = .ok (.ireturn, 1) := by decide +kernel
theorem d_Mo_afterFirm_45 : decode b_Mo_afterFirm 45 = .ok (.aload_n 0, 1) := by decide +kernel
theorem d_Mo_afterFirm_46 : decode b_Mo_afterFirm 46 = .ok (.aload_n 0, 1) := by decide +kernel
theorem d_Mo_afterFirm_47 : decode b_Mo_afterFirm 47 = .ok (.getfield 63, 3) := by decide +kernel
theorem d_Mo_afterFirm_50 : decode b_Mo_afterFirm 50 = .ok (.iconst 1, 1) := by decide +kernel
theorem d_Mo_afterFirm_51 : decode b_Mo_afterFirm 51 = .ok (.iadd, 1) := by decide +kernel
theorem d_Mo_afterFirm_52 : decode b_Mo_afterFirm 52 = .ok (.invokevirtual 97, 3) := by decide +kernel
theorem d_Mo_afterFirm_55 : decode b_Mo_afterFirm 55 = .ok (.istore 4, 2) := by decide +kernel
theorem d_Mo_afterFirm_57 : decode b_Mo_afterFirm 57 = .ok (.iload 4, 2) := by decide +kernel
theorem d_Mo_afterFirm_59 : decode b_Mo_afterFirm 59 = .ok (.ifCond .lt 8, 3) := by decide +kernel
theorem d_Mo_afterFirm_62 : decode b_Mo_afterFirm 62 = .ok (.iload 4, 2) := by decide +kernel
theorem d_Mo_afterFirm_64 : decode b_Mo_afterFirm 64 = .ok (.goto 15, 3) := by decide +kernel
theorem d_Mo_afterFirm_67 : decode b_Mo_afterFirm 67 = .ok (.aload_n 0, 1) := by decide +kernel
theorem d_Mo_afterFirm_68 : decode b_Mo_afterFirm 68 = .ok (.getfield 53, 3) := by decide +kernel
theorem d_Mo_afterFirm_71 : decode b_Mo_afterFirm 71 = .ok (.iload_n 1, 1) := by decide +kernel
theorem d_Mo_afterFirm_72 : decode b_Mo_afterFirm 72 = .ok (.iaload, 1) := by decide +kernel
theorem d_Mo_afterFirm_73 : decode b_Mo_afterFirm 73 = .ok (.iload_n 2, 1) := by decide +kernel
theorem d_Mo_afterFirm_74 : decode b_Mo_afterFirm 74 = .ok (.iconst 3, 1) := by decide +kernel
theorem d_Mo_afterFirm_75 : decode b_Mo_afterFirm 75 = .ok (.idiv, 1) := by decide +kernel
theorem d_Mo_afterFirm_76 : decode b_Mo_afterFirm 76 = .ok (.ishr, 1) := by decide +kernel
theorem d_Mo_afterFirm_77 : decode b_Mo_afterFirm 77 = .ok (.iconst 1, 1) := by decide +kernel
theorem d_Mo_afterFirm_78 : decode b_Mo_afterFirm 78 = .ok (.iand, 1) := by decide +kernel
theorem d_Mo_afterFirm_79 : decode b_Mo_afterFirm 79 = .ok (.ireturn, 1) := by decide +kernel
theorem d_Mo_sent_0 : decode b_Mo_sent 0 = .ok (.aload_n 0, 1) := by decide +kernel
theorem d_Mo_sent_1 : decode b_Mo_sent 1 = .ok (.iload_n 1, 1) := by decide +kernel
theorem d_Mo_sent_2 : decode b_Mo_sent 2 = .ok (.invokevirtual 66, 3) := by decide +kernel
theorem d_Mo_sent_5 : decode b_Mo_sent 5 = .ok (.ifCond .eq 12, 3) := by decide +kernel
theorem d_Mo_sent_8 : decode b_Mo_sent 8 = .ok (.aload_n 0, 1) := by decide +kernel
theorem d_Mo_sent_9 : decode b_Mo_sent 9 = .ok (.getfield 17, 3) := by decide +kernel
theorem d_Mo_sent_12 : decode b_Mo_sent 12 = .ok (.iload_n 1, 1) := by decide +kernel
theorem d_Mo_sent_13 : decode b_Mo_sent 13 = .ok (.iaload, 1) := by decide +kernel
theorem d_Mo_sent_14 : decode b_Mo_sent 14 = .ok (.goto 4, 3) := by decide +kernel
theorem d_Mo_sent_17 : decode b_Mo_sent 17 = .ok (.iconst (-1), 1) := by decide +kernel
theorem d_Mo_sent_18 : decode b_Mo_sent 18 = .ok (.ireturn, 1) := by decide +kernel
theorem d_Mo_message_0 : decode b_Mo_message 0 = .ok (.aload_n 0, 1) := by decide +kernel
theorem d_Mo_message_1 : decode b_Mo_message 1 = .ok (.iload_n 1, 1) := by decide +kernel
theorem d_Mo_message_2 : decode b_Mo_message 2 = .ok (.invokevirtual 66, 3) := by decide +kernel
theorem d_Mo_message_5 : decode b_Mo_message 5 = .ok (.ifCond .eq 32, 3) := by decide +kernel
theorem d_Mo_message_8 : decode b_Mo_message 8 = .ok (.iload_n 2, 1) := by decide +kernel
theorem d_Mo_message_9 : decode b_Mo_message 9 = .ok (.ifCond .lt 28, 3) := by decide +kernel
theorem d_Mo_message_12 : decode b_Mo_message 12 = .ok (.iload_n 2, 1) := by decide +kernel
theorem d_Mo_message_13 : decode b_Mo_message 13 = .ok (.aload_n 0, 1) := by decide +kernel
theorem d_Mo_message_14 : decode b_Mo_message 14 = .ok (.getfield 17, 3) := by decide +kernel
theorem d_Mo_message_17 : decode b_Mo_message 17 = .ok (.iload_n 1, 1) := by decide +kernel
theorem d_Mo_message_18 : decode b_Mo_message 18 = .ok (.iaload, 1) := by decide +kernel
theorem d_Mo_message_19 : decode b_Mo_message 19 = .ok (.if_icmp .ge 18, 3) := by decide +kernel
theorem d_Mo_message_22 : decode b_Mo_message 22 = .ok (.aload_n 0, 1) := by decide +kernel
theorem d_Mo_message_23 : decode b_Mo_message 23 = .ok (.getfield 13, 3) := by decide +kernel
theorem d_Mo_message_26 : decode b_Mo_message 26 = .ok (.sipush 140, 3) := by decide +kernel
theorem d_Mo_message_29 : decode b_Mo_message 29 = .ok (.iload_n 1, 1) := by decide +kernel
theorem d_Mo_message_30 : decode b_Mo_message 30 = .ok (.imul, 1) := by decide +kernel
theorem d_Mo_message_31 : decode b_Mo_message 31 = .ok (.iload_n 2, 1) := by decide +kernel
theorem d_Mo_message_32 : decode b_Mo_message 32 = .ok (.iadd, 1) := by decide +kernel
theorem d_Mo_message_33 : decode b_Mo_message 33 = .ok (.iaload, 1) := by decide +kernel
theorem d_Mo_message_34 : decode b_Mo_message 34 = .ok (.goto 4, 3) := by decide +kernel
theorem d_Mo_message_37 : decode b_Mo_message 37 = .ok (.iconst (-1), 1) := by decide +kernel
theorem d_Mo_message_38 : decode b_Mo_message 38 = .ok (.ireturn, 1) := by decide +kernel
theorem d_Mo_waiting_0 : decode b_Mo_waiting 0 = .ok (.aload_n 0, 1) := by decide +kernel
theorem d_Mo_waiting_1 : decode b_Mo_waiting 1 = .ok (.iload_n 1, 1) := by decide +kernel
theorem d_Mo_waiting_2 : decode b_Mo_waiting 2 = .ok (.invokevirtual 66, 3) := by decide +kernel
theorem d_Mo_waiting_5 : decode b_Mo_waiting 5 = .ok (.ifCond .eq 32, 3) := by decide +kernel
theorem d_Mo_waiting_8 : decode b_Mo_waiting 8 = .ok (.aload_n 0, 1) := by decide +kernel
theorem d_Mo_waiting_9 : decode b_Mo_waiting 9 = .ok (.iload_n 2, 1) := by decide +kernel
theorem d_Mo_waiting_10 : decode b_Mo_waiting 10 = .ok (.invokevirtual 66, 3) := by decide +kernel
theorem d_Mo_waiting_13 : decode b_Mo_waiting 13 = .ok (.ifCond .eq 24, 3) := by decide +kernel
theorem d_Mo_waiting_16 : decode b_Mo_waiting 16 = .ok (.aload_n 0, 1) := by decide +kernel
theorem d_Mo_waiting_17 : decode b_Mo_waiting 17 = .ok (.getfield 17, 3) := by decide +kernel
theorem d_Mo_waiting_20 : decode b_Mo_waiting 20 = .ok (.iload_n 1, 1) := by decide +kernel
theorem d_Mo_waiting_21 : decode b_Mo_waiting 21 = .ok (.iaload, 1) := by decide +kernel
theorem d_Mo_waiting_22 : decode b_Mo_waiting 22 = .ok (.aload_n 0, 1) := by decide +kernel
theorem d_Mo_waiting_23 : decode b_Mo_waiting 23 = .ok (.getfield 20, 3) := by decide +kernel
theorem d_Mo_waiting_26 : decode b_Mo_waiting 26 = .ok (.bipush 7, 2) := by decide +kernel
theorem d_Mo_waiting_28 : decode b_Mo_waiting 28 = .ok (.iload_n 2, 1) := by decide +kernel
theorem d_Mo_waiting_29 : decode b_Mo_waiting 29 = .ok (.imul, 1) := by decide +kernel
theorem d_Mo_waiting_30 : decode b_Mo_waiting 30 = .ok (.iload_n 1, 1) := by decide +kernel
theorem d_Mo_waiting_31 : decode b_Mo_waiting 31 = .ok (.iadd, 1) := by decide +kernel
theorem d_Mo_waiting_32 : decode b_Mo_waiting 32 = .ok (.iaload, 1) := by decide +kernel
theorem d_Mo_waiting_33 : decode b_Mo_waiting 33 = .ok (.isub, 1) := by decide +kernel
theorem d_Mo_waiting_34 : decode b_Mo_waiting 34 = .ok (.goto 4, 3) := by decide +kernel
theorem d_Mo_waiting_37 : decode b_Mo_waiting 37 = .ok (.iconst (-1), 1) := by decide +kernel
theorem d_Mo_waiting_38 : decode b_Mo_waiting 38 = .ok (.ireturn, 1) := by decide +kernel
theorem d_Mo_votes_0 : decode b_Mo_votes 0 = .ok (.aload_n 0, 1) := by decide +kernel
theorem d_Mo_votes_1 : decode b_Mo_votes 1 = .ok (.iload_n 1, 1) := by decide +kernel
theorem d_Mo_votes_2 : decode b_Mo_votes 2 = .ok (.invokevirtual 66, 3) := by decide +kernel
theorem d_Mo_votes_5 : decode b_Mo_votes 5 = .ok (.ifCond .eq 51, 3) := by decide +kernel
theorem d_Mo_votes_8 : decode b_Mo_votes 8 = .ok (.aload_n 0, 1) := by decide +kernel
theorem d_Mo_votes_9 : decode b_Mo_votes 9 = .ok (.iload_n 3, 1) := by decide +kernel
theorem d_Mo_votes_10 : decode b_Mo_votes 10 = .ok (.invokevirtual 66, 3) := by decide +kernel
theorem d_Mo_votes_13 : decode b_Mo_votes 13 = .ok (.ifCond .eq 43, 3) := by decide +kernel
theorem d_Mo_votes_16 : decode b_Mo_votes 16 = .ok (.iload_n 2, 1) := by decide +kernel
theorem d_Mo_votes_17 : decode b_Mo_votes 17 = .ok (.invokestatic 122, 3) := by decide +kernel
theorem d_Mo_votes_20 : decode b_Mo_votes 20 = .ok (.ifCond .eq 36, 3) := by decide +kernel
theorem d_Mo_votes_23 : decode b_Mo_votes 23 = .ok (.iload 4, 2) := by decide +kernel
theorem d_Mo_votes_25 : decode b_Mo_votes 25 = .ok (.ifCond .lt 31, 3) := by decide +kernel
theorem d_Mo_votes_28 : decode b_Mo_votes 28 = .ok (.iload 4, 2) := by decide +kernel
theorem d_Mo_votes_30 : decode b_Mo_votes 30 = .ok (.iconst 3, 1) := by decide +kernel
theorem d_Mo_votes_31 : decode b_Mo_votes 31 = .ok (.if_icmp .gt 25, 3) := by decide +kernel
theorem d_Mo_votes_34 : decode b_Mo_votes 34 = .ok (.aload_n 0, 1) := by decide +kernel
theorem d_Mo_votes_35 : decode b_Mo_votes 35 = .ok (.iload_n 1, 1) := by decide +kernel
theorem d_Mo_votes_36 : decode b_Mo_votes 36 = .ok (.iload 5, 2) := by decide +kernel
theorem d_Mo_votes_38 : decode b_Mo_votes 38 = .ok (.ifCond .eq 7, 3) := by decide +kernel
theorem d_Mo_votes_41 : decode b_Mo_votes 41 = .ok (.iconst 2, 1) := by decide +kernel
theorem d_Mo_votes_42 : decode b_Mo_votes 42 = .ok (.goto 4, 3) := by decide +kernel
theorem d_Mo_votes_45 : decode b_Mo_votes 45 = .ok (.iconst 1, 1) := by decide +kernel
theorem d_Mo_votes_46 : decode b_Mo_votes 46 = .ok (.iload_n 2, 1) := by decide +kernel
theorem d_Mo_votes_47 : decode b_Mo_votes 47 = .ok (.iload_n 3, 1) := by decide +kernel
theorem d_Mo_votes_48 : decode b_Mo_votes 48 = .ok (.iload 4, 2) := by decide +kernel
theorem d_Mo_votes_50 : decode b_Mo_votes 50 = .ok (.invokevirtual 78, 3) := by decide +kernel
theorem d_Mo_votes_53 : decode b_Mo_votes 53 = .ok (.goto 4, 3) := by decide +kernel
theorem d_Mo_votes_56 : decode b_Mo_votes 56 = .ok (.iconst 0, 1) := by decide +kernel
theorem d_Mo_votes_57 : decode b_Mo_votes 57 = .ok (.ireturn, 1) := by decide +kernel
theorem d_Mo_accepted_0 : decode b_Mo_accepted 0 = .ok (.aload_n 0, 1) := by decide +kernel
theorem d_Mo_accepted_1 : decode b_Mo_accepted 1 = .ok (.iload_n 1, 1) := by decide +kernel
theorem d_Mo_accepted_2 : decode b_Mo_accepted 2 = .ok (.invokevirtual 66, 3) := by decide +kernel
theorem d_Mo_accepted_5 : decode b_Mo_accepted 5 = .ok (.ifCond .eq 34, 3) := by decide +kernel
theorem d_Mo_accepted_8 : decode b_Mo_accepted 8 = .ok (.aload_n 0, 1) := by decide +kernel
theorem d_Mo_accepted_9 : decode b_Mo_accepted 9 = .ok (.iload_n 3, 1) := by decide +kernel
theorem d_Mo_accepted_10 : decode b_Mo_accepted 10 = .ok (.invokevirtual 66, 3) := by decide +kernel
theorem d_Mo_accepted_13 : decode b_Mo_accepted 13 = .ok (.ifCond .eq 26, 3) := by decide +kernel
theorem d_Mo_accepted_16 : decode b_Mo_accepted 16 = .ok (.iload_n 2, 1) := by decide +kernel
theorem d_Mo_accepted_17 : decode b_Mo_accepted 17 = .ok (.invokestatic 122, 3) := by decide +kernel
theorem d_Mo_accepted_20 : decode b_Mo_accepted 20 = .ok (.ifCond .eq 19, 3) := by decide +kernel
theorem d_Mo_accepted_23 : decode b_Mo_accepted 23 = .ok (.aload_n 0, 1) := by decide +kernel
theorem d_Mo_accepted_24 : decode b_Mo_accepted 24 = .ok (.getfield 29, 3) := by decide +kernel
theorem d_Mo_accepted_27 : decode b_Mo_accepted 27 = .ok (.iload_n 1, 1) := by decide +kernel
theorem d_Mo_accepted_28 : decode b_Mo_accepted 28 = .ok (.iload_n 2, 1) := by decide +kernel
theorem d_Mo_accepted_29 : decode b_Mo_accepted 29 = .ok (.iload_n 3, 1) := by decide +kernel
theorem d_Mo_accepted_30 : decode b_Mo_accepted 30 = .ok (.invokestatic 70, 3) := by decide +kernel
theorem d_Mo_accepted_33 : decode b_Mo_accepted 33 = .ok (.iaload, 1) := by decide +kernel
theorem d_Mo_accepted_34 : decode b_Mo_accepted 34 = .ok (.iconst 1, 1) := by decide +kernel
theorem d_Mo_accepted_35 : decode b_Mo_accepted 35 = .ok (.isub, 1) := by decide +kernel
theorem d_Mo_accepted_36 : decode b_Mo_accepted 36 = .ok (.goto 4, 3) := by decide +kernel
theorem d_Mo_accepted_39 : decode b_Mo_accepted 39 = .ok (.iconst (-1), 1) := by decide +kernel
theorem d_Mo_accepted_40 : decode b_Mo_accepted 40 = .ok (.ireturn, 1) := by decide +kernel
theorem d_Mo_rowAt_0 : decode b_Mo_rowAt 0 = .ok (.aload_n 0, 1) := by decide +kernel
theorem d_Mo_rowAt_1 : decode b_Mo_rowAt 1 = .ok (.iload_n 1, 1) := by decide +kernel
theorem d_Mo_rowAt_2 : decode b_Mo_rowAt 2 = .ok (.invokevirtual 66, 3) := by decide +kernel
theorem d_Mo_rowAt_5 : decode b_Mo_rowAt 5 = .ok (.ifCond .eq 43, 3) := by decide +kernel
theorem d_Mo_rowAt_8 : decode b_Mo_rowAt 8 = .ok (.iload_n 2, 1) := by decide +kernel
theorem d_Mo_rowAt_9 : decode b_Mo_rowAt 9 = .ok (.invokestatic 122, 3) := by decide +kernel
theorem d_Mo_rowAt_12 : decode b_Mo_rowAt 12 = .ok (.ifCond .eq 36, 3) := by decide +kernel
theorem d_Mo_rowAt_15 : decode b_Mo_rowAt 15 = .ok (.iload_n 3, 1) := by decide +kernel
theorem d_Mo_rowAt_16 : decode b_Mo_rowAt 16 = .ok (.ifCond .lt 32, 3) := by decide +kernel
theorem d_Mo_rowAt_19 : decode b_Mo_rowAt 19 = .ok (.iload_n 3, 1) := by decide +kernel
theorem d_Mo_rowAt_20 : decode b_Mo_rowAt 20 = .ok (.aload_n 0, 1) := by decide +kernel
theorem d_Mo_rowAt_21 : decode b_Mo_rowAt 21 = .ok (.getfield 38, 3) := by decide +kernel
theorem d_Mo_rowAt_24 : decode b_Mo_rowAt 24 = .ok (.bipush 9, 2) := by decide +kernel
theorem d_Mo_rowAt_26 : decode b_Mo_rowAt 26 = .ok (.iload_n 1, 1) := by decide +kernel
theorem d_Mo_rowAt_27 : decode b_Mo_rowAt 27 = .ok (.imul, 1) := by decide +kernel
theorem d_Mo_rowAt_28 : decode b_Mo_rowAt 28 = .ok (.iload_n 2, 1) := by decide +kernel
theorem d_Mo_rowAt_29 : decode b_Mo_rowAt 29 = .ok (.iadd, 1) := by decide +kernel
theorem d_Mo_rowAt_30 : decode b_Mo_rowAt 30 = .ok (.iaload, 1) := by decide +kernel
theorem d_Mo_rowAt_31 : decode b_Mo_rowAt 31 = .ok (.if_icmp .ge 17, 3) := by decide +kernel
theorem d_Mo_rowAt_34 : decode b_Mo_rowAt 34 = .ok (.aload_n 0, 1) := by decide +kernel
theorem d_Mo_rowAt_35 : decode b_Mo_rowAt 35 = .ok (.getfield 35, 3) := by decide +kernel
theorem d_Mo_rowAt_38 : decode b_Mo_rowAt 38 = .ok (.iload_n 1, 1) := by decide +kernel
theorem d_Mo_rowAt_39 : decode b_Mo_rowAt 39 = .ok (.iload_n 2, 1) := by decide +kernel
theorem d_Mo_rowAt_40 : decode b_Mo_rowAt 40 = .ok (.iload_n 3, 1) := by decide +kernel
theorem d_Mo_rowAt_41 : decode b_Mo_rowAt 41 = .ok (.invokestatic 70, 3) := by decide +kernel
theorem d_Mo_rowAt_44 : decode b_Mo_rowAt 44 = .ok (.iaload, 1) := by decide +kernel
theorem d_Mo_rowAt_45 : decode b_Mo_rowAt 45 = .ok (.goto 4, 3) := by decide +kernel
theorem d_Mo_rowAt_48 : decode b_Mo_rowAt 48 = .ok (.iconst (-1), 1) := by decide +kernel
theorem d_Mo_rowAt_49 : decode b_Mo_rowAt 49 = .ok (.ireturn, 1) := by decide +kernel
theorem d_Mo_slot_0 : decode b_Mo_slot 0 = .ok (.aload_n 0, 1) := by decide +kernel
theorem d_Mo_slot_1 : decode b_Mo_slot 1 = .ok (.iload_n 1, 1) := by decide +kernel
theorem d_Mo_slot_2 : decode b_Mo_slot 2 = .ok (.invokevirtual 66, 3) := by decide +kernel
theorem d_Mo_slot_5 : decode b_Mo_slot 5 = .ok (.ifCond .eq 12, 3) := by decide +kernel
theorem d_Mo_slot_8 : decode b_Mo_slot 8 = .ok (.aload_n 0, 1) := by decide +kernel
theorem d_Mo_slot_9 : decode b_Mo_slot 9 = .ok (.getfield 44, 3) := by decide +kernel
theorem d_Mo_slot_12 : decode b_Mo_slot 12 = .ok (.iload_n 1, 1) := by decide +kernel
theorem d_Mo_slot_13 : decode b_Mo_slot 13 = .ok (.iaload, 1) := by decide +kernel
theorem d_Mo_slot_14 : decode b_Mo_slot 14 = .ok (.goto 4, 3) := by decide +kernel
theorem d_Mo_slot_17 : decode b_Mo_slot 17 = .ok (.iconst (-1), 1) := by decide +kernel
theorem d_Mo_slot_18 : decode b_Mo_slot 18 = .ok (.ireturn, 1) := by decide +kernel
theorem d_Mo_value_0 : decode b_Mo_value 0 = .ok (.aload_n 0, 1) := by decide +kernel
theorem d_Mo_value_1 : decode b_Mo_value 1 = .ok (.iload_n 1, 1) := by decide +kernel
theorem d_Mo_value_2 : decode b_Mo_value 2 = .ok (.invokevirtual 66, 3) := by decide +kernel
theorem d_Mo_value_5 : decode b_Mo_value 5 = .ok (.ifCond .eq 21, 3) := by decide +kernel
theorem d_Mo_value_8 : decode b_Mo_value 8 = .ok (.aload_n 0, 1) := by decide +kernel
theorem d_Mo_value_9 : decode b_Mo_value 9 = .ok (.getfield 44, 3) := by decide +kernel
theorem d_Mo_value_12 : decode b_Mo_value 12 = .ok (.iload_n 1, 1) := by decide +kernel
theorem d_Mo_value_13 : decode b_Mo_value 13 = .ok (.iaload, 1) := by decide +kernel
theorem d_Mo_value_14 : decode b_Mo_value 14 = .ok (.ifCond .lt 12, 3) := by decide +kernel
theorem d_Mo_value_17 : decode b_Mo_value 17 = .ok (.aload_n 0, 1) := by decide +kernel
theorem d_Mo_value_18 : decode b_Mo_value 18 = .ok (.getfield 47, 3) := by decide +kernel
theorem d_Mo_value_21 : decode b_Mo_value 21 = .ok (.iload_n 1, 1) := by decide +kernel
theorem d_Mo_value_22 : decode b_Mo_value 22 = .ok (.iaload, 1) := by decide +kernel
theorem d_Mo_value_23 : decode b_Mo_value 23 = .ok (.goto 4, 3) := by decide +kernel
theorem d_Mo_value_26 : decode b_Mo_value 26 = .ok (.iconst (-1), 1) := by decide +kernel
theorem d_Mo_value_27 : decode b_Mo_value 27 = .ok (.ireturn, 1) := by decide +kernel
theorem d_Mo_decided_0 : decode b_Mo_decided 0 = .ok (.aload_n 0, 1) := by decide +kernel
theorem d_Mo_decided_1 : decode b_Mo_decided 1 = .ok (.iload_n 1, 1) := by decide +kernel
theorem d_Mo_decided_2 : decode b_Mo_decided 2 = .ok (.invokevirtual 66, 3) := by decide +kernel
theorem d_Mo_decided_5 : decode b_Mo_decided 5 = .ok (.ifCond .eq 12, 3) := by decide +kernel
theorem d_Mo_decided_8 : decode b_Mo_decided 8 = .ok (.aload_n 0, 1) := by decide +kernel
theorem d_Mo_decided_9 : decode b_Mo_decided 9 = .ok (.getfield 50, 3) := by decide +kernel
theorem d_Mo_decided_12 : decode b_Mo_decided 12 = .ok (.iload_n 1, 1) := by decide +kernel
theorem d_Mo_decided_13 : decode b_Mo_decided 13 = .ok (.iaload, 1) := by decide +kernel
theorem d_Mo_decided_14 : decode b_Mo_decided 14 = .ok (.goto 4, 3) := by decide +kernel
theorem d_Mo_decided_17 : decode b_Mo_decided 17 = .ok (.iconst (-1), 1) := by decide +kernel
theorem d_Mo_decided_18 : decode b_Mo_decided 18 = .ok (.ireturn, 1) := by decide +kernel
theorem d_Mo_corrupt_0 : decode b_Mo_corrupt 0 = .ok (.aload_n 0, 1) := by decide +kernel
theorem d_Mo_corrupt_1 : decode b_Mo_corrupt 1 = .ok (.iload_n 1, 1) := by decide +kernel
theorem d_Mo_corrupt_2 : decode b_Mo_corrupt 2 = .ok (.invokevirtual 115, 3) := by decide +kernel
theorem d_Mo_corrupt_5 : decode b_Mo_corrupt 5 = .ok (.ifCond .ne 5, 3) := by decide +kernel
theorem d_Mo_corrupt_8 : decode b_Mo_corrupt 8 = .ok (.iconst 0, 1) := by decide +kernel
theorem d_Mo_corrupt_9 : decode b_Mo_corrupt 9 = .ok (.ireturn, 1) := by decide +kernel
theorem d_Mo_corrupt_10 : decode b_Mo_corrupt 10 = .ok (.aload_n 0, 1) := by decide +kernel
theorem d_Mo_corrupt_11 : decode b_Mo_corrupt 11 = .ok (.getfield 7, 3) := by decide +kernel
theorem d_Mo_corrupt_14 : decode b_Mo_corrupt 14 = .ok (.iload_n 1, 1) := by decide +kernel
theorem d_Mo_corrupt_15 : decode b_Mo_corrupt 15 = .ok (.iconst 1, 1) := by decide +kernel
theorem d_Mo_corrupt_16 : decode b_Mo_corrupt 16 = .ok (.bastore, 1) := by decide +kernel
theorem d_Mo_corrupt_17 : decode b_Mo_corrupt 17 = .ok (.iconst 1, 1) := by decide +kernel
theorem d_Mo_corrupt_18 : decode b_Mo_corrupt 18 = .ok (.ireturn, 1) := by decide +kernel
theorem d_Mo_tosses_0 : decode b_Mo_tosses 0 = .ok (.aload_n 0, 1) := by decide +kernel
theorem d_Mo_tosses_1 : decode b_Mo_tosses 1 = .ok (.iload_n 1, 1) := by decide +kernel
theorem d_Mo_tosses_2 : decode b_Mo_tosses 2 = .ok (.invokevirtual 115, 3) := by decide +kernel
theorem d_Mo_tosses_5 : decode b_Mo_tosses 5 = .ok (.ifCond .ne 5, 3) := by decide +kernel
theorem d_Mo_tosses_8 : decode b_Mo_tosses 8 = .ok (.iconst 0, 1) := by decide +kernel
theorem d_Mo_tosses_9 : decode b_Mo_tosses 9 = .ok (.ireturn, 1) := by decide +kernel
theorem d_Mo_tosses_10 : decode b_Mo_tosses 10 = .ok (.aload_n 0, 1) := by decide +kernel
theorem d_Mo_tosses_11 : decode b_Mo_tosses 11 = .ok (.getfield 53, 3) := by decide +kernel
theorem d_Mo_tosses_14 : decode b_Mo_tosses 14 = .ok (.iload_n 1, 1) := by decide +kernel
theorem d_Mo_tosses_15 : decode b_Mo_tosses 15 = .ok (.iload_n 2, 1) := by decide +kernel
theorem d_Mo_tosses_16 : decode b_Mo_tosses 16 = .ok (.bipush 7, 2) := by decide +kernel
theorem d_Mo_tosses_18 : decode b_Mo_tosses 18 = .ok (.iand, 1) := by decide +kernel
theorem d_Mo_tosses_19 : decode b_Mo_tosses 19 = .ok (.iastore, 1) := by decide +kernel
theorem d_Mo_tosses_20 : decode b_Mo_tosses 20 = .ok (.iconst 1, 1) := by decide +kernel
theorem d_Mo_tosses_21 : decode b_Mo_tosses 21 = .ok (.ireturn, 1) := by decide +kernel
theorem d_Mo_receive_0 : decode b_Mo_receive 0 = .ok (.iload_n 1, 1) := by decide +kernel
theorem d_Mo_receive_1 : decode b_Mo_receive 1 = .ok (.iload 4, 2) := by decide +kernel
theorem d_Mo_receive_3 : decode b_Mo_receive 3 = .ok (.iload 5, 2) := by decide +kernel
theorem d_Mo_receive_5 : decode b_Mo_receive 5 = .ok (.invokestatic 70, 3) := by decide +kernel
theorem d_Mo_receive_8 : decode b_Mo_receive 8 = .ok (.istore 7, 2) := by decide +kernel
theorem d_Mo_receive_10 : decode b_Mo_receive 10 = .ok (.iload_n 3, 1) := by decide +kernel
theorem d_Mo_receive_11 : decode b_Mo_receive 11 = .ok (.ifCond .ne 43, 3) := by decide +kernel
theorem d_Mo_receive_14 : decode b_Mo_receive 14 = .ok (.iload_n 2, 1) := by decide +kernel
theorem d_Mo_receive_15 : decode b_Mo_receive 15 = .ok (.iload 5, 2) := by decide +kernel
theorem d_Mo_receive_17 : decode b_Mo_receive 17 = .ok (.if_icmp .ne 13, 3) := by decide +kernel
theorem d_Mo_receive_20 : decode b_Mo_receive 20 = .ok (.aload_n 0, 1) := by decide +kernel
theorem d_Mo_receive_21 : decode b_Mo_receive 21 = .ok (.getfield 23, 3) := by decide +kernel
theorem d_Mo_receive_24 : decode b_Mo_receive 24 = .ok (.iload 7, 2) := by decide +kernel
end
section
theorem d_Mo_receive_26 : decode b_Mo_receive 26 = .ok (.baload, 1) := by decide +kernel
theorem d_Mo_receive_27 : decode b_Mo_receive 27 = .ok (.ifCond .eq 5, 3) := by decide +kernel
theorem d_Mo_receive_30 : decode b_Mo_receive 30 = .ok (.iconst 0, 1) := by decide +kernel
theorem d_Mo_receive_31 : decode b_Mo_receive 31 = .ok (.ireturn, 1) := by decide +kernel
theorem d_Mo_receive_32 : decode b_Mo_receive 32 = .ok (.aload_n 0, 1) := by decide +kernel
theorem d_Mo_receive_33 : decode b_Mo_receive 33 = .ok (.getfield 23, 3) := by decide +kernel
theorem d_Mo_receive_36 : decode b_Mo_receive 36 = .ok (.iload 7, 2) := by decide +kernel
theorem d_Mo_receive_38 : decode b_Mo_receive 38 = .ok (.iconst 1, 1) := by decide +kernel
theorem d_Mo_receive_39 : decode b_Mo_receive 39 = .ok (.bastore, 1) := by decide +kernel
theorem d_Mo_receive_40 : decode b_Mo_receive 40 = .ok (.aload_n 0, 1) := by decide +kernel
theorem d_Mo_receive_41 : decode b_Mo_receive 41 = .ok (.iload_n 1, 1) := by decide +kernel
theorem d_Mo_receive_42 : decode b_Mo_receive 42 = .ok (.iconst 1, 1) := by decide +kernel
theorem d_Mo_receive_43 : decode b_Mo_receive 43 = .ok (.iload 4, 2) := by decide +kernel
theorem d_Mo_receive_45 : decode b_Mo_receive 45 = .ok (.iload 5, 2) := by decide +kernel
theorem d_Mo_receive_47 : decode b_Mo_receive 47 = .ok (.iload 6, 2) := by decide +kernel
theorem d_Mo_receive_49 : decode b_Mo_receive 49 = .ok (.invokevirtual 74, 3) := by decide +kernel
theorem d_Mo_receive_52 : decode b_Mo_receive 52 = .ok (.iconst 1, 1) := by decide +kernel
theorem d_Mo_receive_53 : decode b_Mo_receive 53 = .ok (.ireturn, 1) := by decide +kernel
theorem d_Mo_receive_54 : decode b_Mo_receive 54 = .ok (.bipush 126, 2) := by decide +kernel
theorem d_Mo_receive_56 : decode b_Mo_receive 56 = .ok (.bipush 7, 2) := by decide +kernel
theorem d_Mo_receive_58 : decode b_Mo_receive 58 = .ok (.iload_n 1, 1) := by decide +kernel
theorem d_Mo_receive_59 : decode b_Mo_receive 59 = .ok (.imul, 1) := by decide +kernel
theorem d_Mo_receive_60 : decode b_Mo_receive 60 = .ok (.iload_n 2, 1) := by decide +kernel
theorem d_Mo_receive_61 : decode b_Mo_receive 61 = .ok (.iadd, 1) := by decide +kernel
theorem d_Mo_receive_62 : decode b_Mo_receive 62 = .ok (.imul, 1) := by decide +kernel
theorem d_Mo_receive_63 : decode b_Mo_receive 63 = .ok (.bipush 63, 2) := by decide +kernel
theorem d_Mo_receive_65 : decode b_Mo_receive 65 = .ok (.iload_n 3, 1) := by decide +kernel
theorem d_Mo_receive_66 : decode b_Mo_receive 66 = .ok (.iconst 1, 1) := by decide +kernel
theorem d_Mo_receive_67 : decode b_Mo_receive 67 = .ok (.isub, 1) := by decide +kernel
theorem d_Mo_receive_68 : decode b_Mo_receive 68 = .ok (.imul, 1) := by decide +kernel
theorem d_Mo_receive_69 : decode b_Mo_receive 69 = .ok (.iadd, 1) := by decide +kernel
theorem d_Mo_receive_70 : decode b_Mo_receive 70 = .ok (.bipush 7, 2) := by decide +kernel
theorem d_Mo_receive_72 : decode b_Mo_receive 72 = .ok (.iload 4, 2) := by decide +kernel
theorem d_Mo_receive_74 : decode b_Mo_receive 74 = .ok (.imul, 1) := by decide +kernel
theorem d_Mo_receive_75 : decode b_Mo_receive 75 = .ok (.iadd, 1) := by decide +kernel
theorem d_Mo_receive_76 : decode b_Mo_receive 76 = .ok (.iload 5, 2) := by decide +kernel
theorem d_Mo_receive_78 : decode b_Mo_receive 78 = .ok (.iadd, 1) := by decide +kernel
theorem d_Mo_receive_79 : decode b_Mo_receive 79 = .ok (.istore 8, 2) := by decide +kernel
theorem d_Mo_receive_81 : decode b_Mo_receive 81 = .ok (.aload_n 0, 1) := by decide +kernel
theorem d_Mo_receive_82 : decode b_Mo_receive 82 = .ok (.getfield 41, 3) := by decide +kernel
theorem d_Mo_receive_85 : decode b_Mo_receive 85 = .ok (.iload 8, 2) := by decide +kernel
theorem d_Mo_receive_87 : decode b_Mo_receive 87 = .ok (.iaload, 1) := by decide +kernel
theorem d_Mo_receive_88 : decode b_Mo_receive 88 = .ok (.ifCond .eq 5, 3) := by decide +kernel
theorem d_Mo_receive_91 : decode b_Mo_receive 91 = .ok (.iconst 0, 1) := by decide +kernel
theorem d_Mo_receive_92 : decode b_Mo_receive 92 = .ok (.ireturn, 1) := by decide +kernel
theorem d_Mo_receive_93 : decode b_Mo_receive 93 = .ok (.aload_n 0, 1) := by decide +kernel
theorem d_Mo_receive_94 : decode b_Mo_receive 94 = .ok (.getfield 41, 3) := by decide +kernel
theorem d_Mo_receive_97 : decode b_Mo_receive 97 = .ok (.iload 8, 2) := by decide +kernel
theorem d_Mo_receive_99 : decode b_Mo_receive 99 = .ok (.iload 6, 2) := by decide +kernel
theorem d_Mo_receive_101 : decode b_Mo_receive 101 = .ok (.iconst 1, 1) := by decide +kernel
theorem d_Mo_receive_102 : decode b_Mo_receive 102 = .ok (.iadd, 1) := by decide +kernel
theorem d_Mo_receive_103 : decode b_Mo_receive 103 = .ok (.iastore, 1) := by decide +kernel
theorem d_Mo_receive_104 : decode b_Mo_receive 104 = .ok (.aload_n 0, 1) := by decide +kernel
theorem d_Mo_receive_105 : decode b_Mo_receive 105 = .ok (.iload_n 1, 1) := by decide +kernel
theorem d_Mo_receive_106 : decode b_Mo_receive 106 = .ok (.iload_n 3, 1) := by decide +kernel
theorem d_Mo_receive_107 : decode b_Mo_receive 107 = .ok (.iload 4, 2) := by decide +kernel
theorem d_Mo_receive_109 : decode b_Mo_receive 109 = .ok (.iload 5, 2) := by decide +kernel
theorem d_Mo_receive_111 : decode b_Mo_receive 111 = .ok (.iload 6, 2) := by decide +kernel
theorem d_Mo_receive_113 : decode b_Mo_receive 113 = .ok (.invokevirtual 78, 3) := by decide +kernel
theorem d_Mo_receive_116 : decode b_Mo_receive 116 = .ok (.istore 9, 2) := by decide +kernel
theorem d_Mo_receive_118 : decode b_Mo_receive 118 = .ok (.iload_n 3, 1) := by decide +kernel
theorem d_Mo_receive_119 : decode b_Mo_receive 119 = .ok (.iconst 1, 1) := by decide +kernel
theorem d_Mo_receive_120 : decode b_Mo_receive 120 = .ok (.if_icmp .ne 19, 3) := by decide +kernel
theorem d_Mo_receive_123 : decode b_Mo_receive 123 = .ok (.aload_n 0, 1) := by decide +kernel
theorem d_Mo_receive_124 : decode b_Mo_receive 124 = .ok (.getfield 59, 3) := by decide +kernel
theorem d_Mo_receive_127 : decode b_Mo_receive 127 = .ok (.aload_n 0, 1) := by decide +kernel
theorem d_Mo_receive_128 : decode b_Mo_receive 128 = .ok (.getfield 63, 3) := by decide +kernel
theorem d_Mo_receive_131 : decode b_Mo_receive 131 = .ok (.iadd, 1) := by decide +kernel
theorem d_Mo_receive_132 : decode b_Mo_receive 132 = .ok (.iconst 2, 1) := by decide +kernel
theorem d_Mo_receive_133 : decode b_Mo_receive 133 = .ok (.idiv, 1) := by decide +kernel
theorem d_Mo_receive_134 : decode b_Mo_receive 134 = .ok (.iconst 1, 1) := by decide +kernel
theorem d_Mo_receive_135 : decode b_Mo_receive 135 = .ok (.iadd, 1) := by decide +kernel
theorem d_Mo_receive_136 : decode b_Mo_receive 136 = .ok (.goto 9, 3) := by decide +kernel
theorem d_Mo_receive_139 : decode b_Mo_receive 139 = .ok (.aload_n 0, 1) := by decide +kernel
theorem d_Mo_receive_140 : decode b_Mo_receive 140 = .ok (.getfield 63, 3) := by decide +kernel
theorem d_Mo_receive_143 : decode b_Mo_receive 143 = .ok (.iconst 1, 1) := by decide +kernel
theorem d_Mo_receive_144 : decode b_Mo_receive 144 = .ok (.iadd, 1) := by decide +kernel
theorem d_Mo_receive_145 : decode b_Mo_receive 145 = .ok (.istore 10, 2) := by decide +kernel
theorem d_Mo_receive_147 : decode b_Mo_receive 147 = .ok (.iload 9, 2) := by decide +kernel
theorem d_Mo_receive_149 : decode b_Mo_receive 149 = .ok (.iload 10, 2) := by decide +kernel
theorem d_Mo_receive_151 : decode b_Mo_receive 151 = .ok (.if_icmp .lt 25, 3) := by decide +kernel
theorem d_Mo_receive_154 : decode b_Mo_receive 154 = .ok (.aload_n 0, 1) := by decide +kernel
theorem d_Mo_receive_155 : decode b_Mo_receive 155 = .ok (.getfield 26, 3) := by decide +kernel
theorem d_Mo_receive_158 : decode b_Mo_receive 158 = .ok (.iload 7, 2) := by decide +kernel
theorem d_Mo_receive_160 : decode b_Mo_receive 160 = .ok (.baload, 1) := by decide +kernel
theorem d_Mo_receive_161 : decode b_Mo_receive 161 = .ok (.ifCond .ne 15, 3) := by decide +kernel
theorem d_Mo_receive_164 : decode b_Mo_receive 164 = .ok (.aload_n 0, 1) := by decide +kernel
theorem d_Mo_receive_165 : decode b_Mo_receive 165 = .ok (.iload_n 1, 1) := by decide +kernel
theorem d_Mo_receive_166 : decode b_Mo_receive 166 = .ok (.iconst 2, 1) := by decide +kernel
theorem d_Mo_receive_167 : decode b_Mo_receive 167 = .ok (.iload 4, 2) := by decide +kernel
theorem d_Mo_receive_169 : decode b_Mo_receive 169 = .ok (.iload 5, 2) := by decide +kernel
theorem d_Mo_receive_171 : decode b_Mo_receive 171 = .ok (.iload 6, 2) := by decide +kernel
theorem d_Mo_receive_173 : decode b_Mo_receive 173 = .ok (.invokevirtual 74, 3) := by decide +kernel
theorem d_Mo_receive_176 : decode b_Mo_receive 176 = .ok (.iload_n 3, 1) := by decide +kernel
theorem d_Mo_receive_177 : decode b_Mo_receive 177 = .ok (.iconst 2, 1) := by decide +kernel
theorem d_Mo_receive_178 : decode b_Mo_receive 178 = .ok (.if_icmp .ne 37, 3) := by decide +kernel
theorem d_Mo_receive_181 : decode b_Mo_receive 181 = .ok (.iload 9, 2) := by decide +kernel
theorem d_Mo_receive_183 : decode b_Mo_receive 183 = .ok (.iconst 2, 1) := by decide +kernel
theorem d_Mo_receive_184 : decode b_Mo_receive 184 = .ok (.aload_n 0, 1) := by decide +kernel
theorem d_Mo_receive_185 : decode b_Mo_receive 185 = .ok (.getfield 63, 3) := by decide +kernel
theorem d_Mo_receive_188 : decode b_Mo_receive 188 = .ok (.imul, 1) := by decide +kernel
theorem d_Mo_receive_189 : decode b_Mo_receive 189 = .ok (.iconst 1, 1) := by decide +kernel
theorem d_Mo_receive_190 : decode b_Mo_receive 190 = .ok (.iadd, 1) := by decide +kernel
theorem d_Mo_receive_191 : decode b_Mo_receive 191 = .ok (.if_icmp .lt 24, 3) := by decide +kernel
theorem d_Mo_receive_194 : decode b_Mo_receive 194 = .ok (.aload_n 0, 1) := by decide +kernel
theorem d_Mo_receive_195 : decode b_Mo_receive 195 = .ok (.getfield 29, 3) := by decide +kernel
theorem d_Mo_receive_198 : decode b_Mo_receive 198 = .ok (.iload 7, 2) := by decide +kernel
theorem d_Mo_receive_200 : decode b_Mo_receive 200 = .ok (.iaload, 1) := by decide +kernel
theorem d_Mo_receive_201 : decode b_Mo_receive 201 = .ok (.ifCond .ne 14, 3) := by decide +kernel
theorem d_Mo_receive_204 : decode b_Mo_receive 204 = .ok (.aload_n 0, 1) := by decide +kernel
theorem d_Mo_receive_205 : decode b_Mo_receive 205 = .ok (.getfield 29, 3) := by decide +kernel
theorem d_Mo_receive_208 : decode b_Mo_receive 208 = .ok (.iload 7, 2) := by decide +kernel
theorem d_Mo_receive_210 : decode b_Mo_receive 210 = .ok (.iload 6, 2) := by decide +kernel
theorem d_Mo_receive_212 : decode b_Mo_receive 212 = .ok (.iconst 1, 1) := by decide +kernel
theorem d_Mo_receive_213 : decode b_Mo_receive 213 = .ok (.iadd, 1) := by decide +kernel
theorem d_Mo_receive_214 : decode b_Mo_receive 214 = .ok (.iastore, 1) := by decide +kernel
theorem d_Mo_receive_215 : decode b_Mo_receive 215 = .ok (.iconst 1, 1) := by decide +kernel
theorem d_Mo_receive_216 : decode b_Mo_receive 216 = .ok (.ireturn, 1) := by decide +kernel
theorem d_Mo_some_0 : decode b_Mo_some 0 = .ok (.iconst 0, 1) := by decide +kernel
theorem d_Mo_some_1 : decode b_Mo_some 1 = .ok (.istore 4, 2) := by decide +kernel
theorem d_Mo_some_3 : decode b_Mo_some 3 = .ok (.iconst 0, 1) := by decide +kernel
theorem d_Mo_some_4 : decode b_Mo_some 4 = .ok (.istore 5, 2) := by decide +kernel
theorem d_Mo_some_6 : decode b_Mo_some 6 = .ok (.iload 5, 2) := by decide +kernel
theorem d_Mo_some_8 : decode b_Mo_some 8 = .ok (.iconst 1, 1) := by decide +kernel
theorem d_Mo_some_9 : decode b_Mo_some 9 = .ok (.aload_n 0, 1) := by decide +kernel
theorem d_Mo_some_10 : decode b_Mo_some 10 = .ok (.getfield 38, 3) := by decide +kernel
theorem d_Mo_some_13 : decode b_Mo_some 13 = .ok (.bipush 9, 2) := by decide +kernel
theorem d_Mo_some_15 : decode b_Mo_some 15 = .ok (.iload_n 1, 1) := by decide +kernel
theorem d_Mo_some_16 : decode b_Mo_some 16 = .ok (.imul, 1) := by decide +kernel
theorem d_Mo_some_17 : decode b_Mo_some 17 = .ok (.iload_n 2, 1) := by decide +kernel
theorem d_Mo_some_18 : decode b_Mo_some 18 = .ok (.iadd, 1) := by decide +kernel
theorem d_Mo_some_19 : decode b_Mo_some 19 = .ok (.iaload, 1) := by decide +kernel
theorem d_Mo_some_20 : decode b_Mo_some 20 = .ok (.ishl, 1) := by decide +kernel
theorem d_Mo_some_21 : decode b_Mo_some 21 = .ok (.if_icmp .ge 33, 3) := by decide +kernel
theorem d_Mo_some_24 : decode b_Mo_some 24 = .ok (.iload 4, 2) := by decide +kernel
theorem d_Mo_some_26 : decode b_Mo_some 26 = .ok (.ifCond .ne 15, 3) := by decide +kernel
theorem d_Mo_some_29 : decode b_Mo_some 29 = .ok (.aload_n 0, 1) := by decide +kernel
theorem d_Mo_some_30 : decode b_Mo_some 30 = .ok (.iload_n 1, 1) := by decide +kernel
theorem d_Mo_some_31 : decode b_Mo_some 31 = .ok (.iload_n 2, 1) := by decide +kernel
theorem d_Mo_some_32 : decode b_Mo_some 32 = .ok (.iload 5, 2) := by decide +kernel
theorem d_Mo_some_34 : decode b_Mo_some 34 = .ok (.iload_n 3, 1) := by decide +kernel
theorem d_Mo_some_35 : decode b_Mo_some 35 = .ok (.invokevirtual 86, 3) := by decide +kernel
theorem d_Mo_some_38 : decode b_Mo_some 38 = .ok (.ifCond .eq 7, 3) := by decide +kernel
theorem d_Mo_some_41 : decode b_Mo_some 41 = .ok (.iconst 1, 1) := by decide +kernel
theorem d_Mo_some_42 : decode b_Mo_some 42 = .ok (.goto 4, 3) := by decide +kernel
theorem d_Mo_some_45 : decode b_Mo_some 45 = .ok (.iconst 0, 1) := by decide +kernel
theorem d_Mo_some_46 : decode b_Mo_some 46 = .ok (.istore 4, 2) := by decide +kernel
theorem d_Mo_some_48 : decode b_Mo_some 48 = .ok (.iinc 5 1, 3) := by decide +kernel
theorem d_Mo_some_51 : decode b_Mo_some 51 = .ok (.goto (-45), 3) := by decide +kernel
theorem d_Mo_some_54 : decode b_Mo_some 54 = .ok (.iload 4, 2) := by decide +kernel
theorem d_Mo_some_56 : decode b_Mo_some 56 = .ok (.ireturn, 1) := by decide +kernel
theorem d_Mo_goOn_0 : decode b_Mo_goOn 0 = .ok (.aload_n 0, 1) := by decide +kernel
theorem d_Mo_goOn_1 : decode b_Mo_goOn 1 = .ok (.getfield 44, 3) := by decide +kernel
theorem d_Mo_goOn_4 : decode b_Mo_goOn 4 = .ok (.iload_n 1, 1) := by decide +kernel
theorem d_Mo_goOn_5 : decode b_Mo_goOn 5 = .ok (.iaload, 1) := by decide +kernel
theorem d_Mo_goOn_6 : decode b_Mo_goOn 6 = .ok (.istore_n 2, 1) := by decide +kernel
theorem d_Mo_goOn_7 : decode b_Mo_goOn 7 = .ok (.aload_n 0, 1) := by decide +kernel
theorem d_Mo_goOn_8 : decode b_Mo_goOn 8 = .ok (.getfield 59, 3) := by decide +kernel
theorem d_Mo_goOn_11 : decode b_Mo_goOn 11 = .ok (.aload_n 0, 1) := by decide +kernel
theorem d_Mo_goOn_12 : decode b_Mo_goOn 12 = .ok (.getfield 63, 3) := by decide +kernel
theorem d_Mo_goOn_15 : decode b_Mo_goOn 15 = .ok (.isub, 1) := by decide +kernel
theorem d_Mo_goOn_16 : decode b_Mo_goOn 16 = .ok (.istore_n 3, 1) := by decide +kernel
theorem d_Mo_goOn_17 : decode b_Mo_goOn 17 = .ok (.iload_n 2, 1) := by decide +kernel
theorem d_Mo_goOn_18 : decode b_Mo_goOn 18 = .ok (.ifCond .lt 24, 3) := by decide +kernel
theorem d_Mo_goOn_21 : decode b_Mo_goOn 21 = .ok (.iload_n 2, 1) := by decide +kernel
theorem d_Mo_goOn_22 : decode b_Mo_goOn 22 = .ok (.bipush 8, 2) := by decide +kernel
theorem d_Mo_goOn_24 : decode b_Mo_goOn 24 = .ok (.if_icmp .gt 18, 3) := by decide +kernel
theorem d_Mo_goOn_27 : decode b_Mo_goOn 27 = .ok (.aload_n 0, 1) := by decide +kernel
theorem d_Mo_goOn_28 : decode b_Mo_goOn 28 = .ok (.getfield 38, 3) := by decide +kernel
theorem d_Mo_goOn_31 : decode b_Mo_goOn 31 = .ok (.bipush 9, 2) := by decide +kernel
theorem d_Mo_goOn_33 : decode b_Mo_goOn 33 = .ok (.iload_n 1, 1) := by decide +kernel
theorem d_Mo_goOn_34 : decode b_Mo_goOn 34 = .ok (.imul, 1) := by decide +kernel
theorem d_Mo_goOn_35 : decode b_Mo_goOn 35 = .ok (.iload_n 2, 1) := by decide +kernel
theorem d_Mo_goOn_36 : decode b_Mo_goOn 36 = .ok (.iadd, 1) := by decide +kernel
theorem d_Mo_goOn_37 : decode b_Mo_goOn 37 = .ok (.iaload, 1) := by decide +kernel
theorem d_Mo_goOn_38 : decode b_Mo_goOn 38 = .ok (.iload_n 3, 1) := by decide +kernel
theorem d_Mo_goOn_39 : decode b_Mo_goOn 39 = .ok (.if_icmp .ge 5, 3) := by decide +kernel
theorem d_Mo_goOn_42 : decode b_Mo_goOn 42 = .ok (.iconst 0, 1) := by decide +kernel
theorem d_Mo_goOn_43 : decode b_Mo_goOn 43 = .ok (.ireturn, 1) := by decide +kernel
theorem d_Mo_goOn_44 : decode b_Mo_goOn 44 = .ok (.iconst 0, 1) := by decide +kernel
theorem d_Mo_goOn_45 : decode b_Mo_goOn 45 = .ok (.istore 4, 2) := by decide +kernel
theorem d_Mo_goOn_47 : decode b_Mo_goOn 47 = .ok (.iload 4, 2) := by decide +kernel
theorem d_Mo_goOn_49 : decode b_Mo_goOn 49 = .ok (.iconst 4, 1) := by decide +kernel
theorem d_Mo_goOn_50 : decode b_Mo_goOn 50 = .ok (.if_icmp .ge 17, 3) := by decide +kernel
theorem d_Mo_goOn_53 : decode b_Mo_goOn 53 = .ok (.aload_n 0, 1) := by decide +kernel
theorem d_Mo_goOn_54 : decode b_Mo_goOn 54 = .ok (.getfield 56, 3) := by decide +kernel
theorem d_Mo_goOn_57 : decode b_Mo_goOn 57 = .ok (.iload 4, 2) := by decide +kernel
theorem d_Mo_goOn_59 : decode b_Mo_goOn 59 = .ok (.iconst 0, 1) := by decide +kernel
theorem d_Mo_goOn_60 : decode b_Mo_goOn 60 = .ok (.iastore, 1) := by decide +kernel
theorem d_Mo_goOn_61 : decode b_Mo_goOn 61 = .ok (.iinc 4 1, 3) := by decide +kernel
theorem d_Mo_goOn_64 : decode b_Mo_goOn 64 = .ok (.goto (-17), 3) := by decide +kernel
theorem d_Mo_goOn_67 : decode b_Mo_goOn 67 = .ok (.iconst 0, 1) := by decide +kernel
theorem d_Mo_goOn_68 : decode b_Mo_goOn 68 = .ok (.istore 4, 2) := by decide +kernel
theorem d_Mo_goOn_70 : decode b_Mo_goOn 70 = .ok (.iload 4, 2) := by decide +kernel
theorem d_Mo_goOn_72 : decode b_Mo_goOn 72 = .ok (.iload_n 3, 1) := by decide +kernel
theorem d_Mo_goOn_73 : decode b_Mo_goOn 73 = .ok (.if_icmp .ge 51, 3) := by decide +kernel
theorem d_Mo_goOn_76 : decode b_Mo_goOn 76 = .ok (.aload_n 0, 1) := by decide +kernel
theorem d_Mo_goOn_77 : decode b_Mo_goOn 77 = .ok (.getfield 29, 3) := by decide +kernel
theorem d_Mo_goOn_80 : decode b_Mo_goOn 80 = .ok (.iload_n 1, 1) := by decide +kernel
theorem d_Mo_goOn_81 : decode b_Mo_goOn 81 = .ok (.iload_n 2, 1) := by decide +kernel
theorem d_Mo_goOn_82 : decode b_Mo_goOn 82 = .ok (.aload_n 0, 1) := by decide +kernel
theorem d_Mo_goOn_83 : decode b_Mo_goOn 83 = .ok (.getfield 35, 3) := by decide +kernel
theorem d_Mo_goOn_86 : decode b_Mo_goOn 86 = .ok (.iload_n 1, 1) := by decide +kernel
theorem d_Mo_goOn_87 : decode b_Mo_goOn 87 = .ok (.iload_n 2, 1) := by decide +kernel
theorem d_Mo_goOn_88 : decode b_Mo_goOn 88 = .ok (.iload 4, 2) := by decide +kernel
theorem d_Mo_goOn_90 : decode b_Mo_goOn 90 = .ok (.invokestatic 70, 3) := by decide +kernel
theorem d_Mo_goOn_93 : decode b_Mo_goOn 93 = .ok (.iaload, 1) := by decide +kernel
theorem d_Mo_goOn_94 : decode b_Mo_goOn 94 = .ok (.invokestatic 70, 3) := by decide +kernel
theorem d_Mo_goOn_97 : decode b_Mo_goOn 97 = .ok (.iaload, 1) := by decide +kernel
theorem d_Mo_goOn_98 : decode b_Mo_goOn 98 = .ok (.iconst 1, 1) := by decide +kernel
theorem d_Mo_goOn_99 : decode b_Mo_goOn 99 = .ok (.isub, 1) := by decide +kernel
theorem d_Mo_goOn_100 : decode b_Mo_goOn 100 = .ok (.istore 5, 2) := by decide +kernel
theorem d_Mo_goOn_102 : decode b_Mo_goOn 102 = .ok (.aload_n 0, 1) := by decide +kernel
theorem d_Mo_goOn_103 : decode b_Mo_goOn 103 = .ok (.getfield 56, 3) := by decide +kernel
theorem d_Mo_goOn_106 : decode b_Mo_goOn 106 = .ok (.iload 5, 2) := by decide +kernel
theorem d_Mo_goOn_108 : decode b_Mo_goOn 108 = .ok (.aload_n 0, 1) := by decide +kernel
theorem d_Mo_goOn_109 : decode b_Mo_goOn 109 = .ok (.getfield 56, 3) := by decide +kernel
theorem d_Mo_goOn_112 : decode b_Mo_goOn 112 = .ok (.iload 5, 2) := by decide +kernel
theorem d_Mo_goOn_114 : decode b_Mo_goOn 114 = .ok (.iaload, 1) := by decide +kernel
theorem d_Mo_goOn_115 : decode b_Mo_goOn 115 = .ok (.iconst 1, 1) := by decide +kernel
theorem d_Mo_goOn_116 : decode b_Mo_goOn 116 = .ok (.iadd, 1) := by decide +kernel
theorem d_Mo_goOn_117 : decode b_Mo_goOn 117 = .ok (.iastore, 1) := by decide +kernel
theorem d_Mo_goOn_118 : decode b_Mo_goOn 118 = .ok (.iinc 4 1, 3) := by decide +kernel
theorem d_Mo_goOn_121 : decode b_Mo_goOn 121 = .ok (.goto (-51), 3) := by decide +kernel
theorem d_Mo_goOn_124 : decode b_Mo_goOn 124 = .ok (.iload_n 2, 1) := by decide +kernel
theorem d_Mo_goOn_125 : decode b_Mo_goOn 125 = .ok (.iconst 3, 1) := by decide +kernel
theorem d_Mo_goOn_126 : decode b_Mo_goOn 126 = .ok (.irem, 1) := by decide +kernel
theorem d_Mo_goOn_127 : decode b_Mo_goOn 127 = .ok (.ifCond .ne 32, 3) := by decide +kernel
theorem d_Mo_goOn_130 : decode b_Mo_goOn 130 = .ok (.aload_n 0, 1) := by decide +kernel
theorem d_Mo_goOn_131 : decode b_Mo_goOn 131 = .ok (.getfield 47, 3) := by decide +kernel
theorem d_Mo_goOn_134 : decode b_Mo_goOn 134 = .ok (.iload_n 1, 1) := by decide +kernel
theorem d_Mo_goOn_135 : decode b_Mo_goOn 135 = .ok (.aload_n 0, 1) := by decide +kernel
theorem d_Mo_goOn_136 : decode b_Mo_goOn 136 = .ok (.getfield 56, 3) := by decide +kernel
theorem d_Mo_goOn_139 : decode b_Mo_goOn 139 = .ok (.iconst 1, 1) := by decide +kernel
theorem d_Mo_goOn_140 : decode b_Mo_goOn 140 = .ok (.iaload, 1) := by decide +kernel
theorem d_Mo_goOn_141 : decode b_Mo_goOn 141 = .ok (.aload_n 0, 1) := by decide +kernel
theorem d_Mo_goOn_142 : decode b_Mo_goOn 142 = .ok (.getfield 56, 3) := by decide +kernel
theorem d_Mo_goOn_145 : decode b_Mo_goOn 145 = .ok (.iconst 0, 1) := by decide +kernel
theorem d_Mo_goOn_146 : decode b_Mo_goOn 146 = .ok (.iaload, 1) := by decide +kernel
theorem d_Mo_goOn_147 : decode b_Mo_goOn 147 = .ok (.if_icmp .le 7, 3) := by decide +kernel
theorem d_Mo_goOn_150 : decode b_Mo_goOn 150 = .ok (.iconst 1, 1) := by decide +kernel
theorem d_Mo_goOn_151 : decode b_Mo_goOn 151 = .ok (.goto 4, 3) := by decide +kernel
theorem d_Mo_goOn_154 : decode b_Mo_goOn 154 = .ok (.iconst 0, 1) := by decide +kernel
theorem d_Mo_goOn_155 : decode b_Mo_goOn 155 = .ok (.iastore, 1) := by decide +kernel
theorem d_Mo_goOn_156 : decode b_Mo_goOn 156 = .ok (.goto 75, 3) := by decide +kernel
theorem d_Mo_goOn_159 : decode b_Mo_goOn 159 = .ok (.iload_n 2, 1) := by decide +kernel
theorem d_Mo_goOn_160 : decode b_Mo_goOn 160 = .ok (.iconst 3, 1) := by decide +kernel
theorem d_Mo_goOn_161 : decode b_Mo_goOn 161 = .ok (.irem, 1) := by decide +kernel
theorem d_Mo_goOn_162 : decode b_Mo_goOn 162 = .ok (.iconst 1, 1) := by decide +kernel
theorem d_Mo_goOn_163 : decode b_Mo_goOn 163 = .ok (.if_icmp .ne 56, 3) := by decide +kernel
theorem d_Mo_goOn_166 : decode b_Mo_goOn 166 = .ok (.aload_n 0, 1) := by decide +kernel
theorem d_Mo_goOn_167 : decode b_Mo_goOn 167 = .ok (.getfield 47, 3) := by decide +kernel
theorem d_Mo_goOn_170 : decode b_Mo_goOn 170 = .ok (.iload_n 1, 1) := by decide +kernel
theorem d_Mo_goOn_171 : decode b_Mo_goOn 171 = .ok (.iconst 2, 1) := by decide +kernel
theorem d_Mo_goOn_172 : decode b_Mo_goOn 172 = .ok (.aload_n 0, 1) := by decide +kernel
theorem d_Mo_goOn_173 : decode b_Mo_goOn 173 = .ok (.getfield 56, 3) := by decide +kernel
theorem d_Mo_goOn_176 : decode b_Mo_goOn 176 = .ok (.iconst 0, 1) := by decide +kernel
theorem d_Mo_goOn_177 : decode b_Mo_goOn 177 = .ok (.iaload, 1) := by decide +kernel
theorem d_Mo_goOn_178 : decode b_Mo_goOn 178 = .ok (.imul, 1) := by decide +kernel
theorem d_Mo_goOn_179 : decode b_Mo_goOn 179 = .ok (.aload_n 0, 1) := by decide +kernel
theorem d_Mo_goOn_180 : decode b_Mo_goOn 180 = .ok (.getfield 59, 3) := by decide +kernel
theorem d_Mo_goOn_183 : decode b_Mo_goOn 183 = .ok (.if_icmp .le 7, 3) := by decide +kernel
theorem d_Mo_goOn_186 : decode b_Mo_goOn 186 = .ok (.iconst 2, 1) := by decide +kernel
theorem d_Mo_goOn_187 : decode b_Mo_goOn 187 = .ok (.goto 28, 3) := by decide +kernel
theorem d_Mo_goOn_190 : decode b_Mo_goOn 190 = .ok (.iconst 2, 1) := by decide +kernel
theorem d_Mo_goOn_191 : decode b_Mo_goOn 191 = .ok (.aload_n 0, 1) := by decide +kernel
theorem d_Mo_goOn_192 : decode b_Mo_goOn 192 = .ok (.getfield 56, 3) := by decide +kernel
theorem d_Mo_goOn_195 : decode b_Mo_goOn 195 = .ok (.iconst 1, 1) := by decide +kernel
theorem d_Mo_goOn_196 : decode b_Mo_goOn 196 = .ok (.iaload, 1) := by decide +kernel
theorem d_Mo_goOn_197 : decode b_Mo_goOn 197 = .ok (.imul, 1) := by decide +kernel
theorem d_Mo_goOn_198 : decode b_Mo_goOn 198 = .ok (.aload_n 0, 1) := by decide +kernel
theorem d_Mo_goOn_199 : decode b_Mo_goOn 199 = .ok (.getfield 59, 3) := by decide +kernel
theorem d_Mo_goOn_202 : decode b_Mo_goOn 202 = .ok (.if_icmp .le 7, 3) := by decide +kernel
theorem d_Mo_goOn_205 : decode b_Mo_goOn 205 = .ok (.iconst 3, 1) := by decide +kernel
theorem d_Mo_goOn_206 : decode b_Mo_goOn 206 = .ok (.goto 9, 3) := by decide +kernel
theorem d_Mo_goOn_209 : decode b_Mo_goOn 209 = .ok (.aload_n 0, 1) := by decide +kernel
theorem d_Mo_goOn_210 : decode b_Mo_goOn 210 = .ok (.getfield 47, 3) := by decide +kernel
theorem d_Mo_goOn_213 : decode b_Mo_goOn 213 = .ok (.iload_n 1, 1) := by decide +kernel
theorem d_Mo_goOn_214 : decode b_Mo_goOn 214 = .ok (.iaload, 1) := by decide +kernel
theorem d_Mo_goOn_215 : decode b_Mo_goOn 215 = .ok (.iastore, 1) := by decide +kernel
theorem d_Mo_goOn_216 : decode b_Mo_goOn 216 = .ok (.goto 15, 3) := by decide +kernel
theorem d_Mo_goOn_219 : decode b_Mo_goOn 219 = .ok (.aload_n 0, 1) := by decide +kernel
theorem d_Mo_goOn_220 : decode b_Mo_goOn 220 = .ok (.getfield 47, 3) := by decide +kernel
theorem d_Mo_goOn_223 : decode b_Mo_goOn 223 = .ok (.iload_n 1, 1) := by decide +kernel
theorem d_Mo_goOn_224 : decode b_Mo_goOn 224 = .ok (.aload_n 0, 1) := by decide +kernel
theorem d_Mo_goOn_225 : decode b_Mo_goOn 225 = .ok (.iload_n 1, 1) := by decide +kernel
theorem d_Mo_goOn_226 : decode b_Mo_goOn 226 = .ok (.iload_n 2, 1) := by decide +kernel
theorem d_Mo_goOn_227 : decode b_Mo_goOn 227 = .ok (.invokevirtual 101, 3) := by decide +kernel
theorem d_Mo_goOn_230 : decode b_Mo_goOn 230 = .ok (.iastore, 1) := by decide +kernel
theorem d_Mo_goOn_231 : decode b_Mo_goOn 231 = .ok (.aload_n 0, 1) := by decide +kernel
theorem d_Mo_goOn_232 : decode b_Mo_goOn 232 = .ok (.getfield 44, 3) := by decide +kernel
theorem d_Mo_goOn_235 : decode b_Mo_goOn 235 = .ok (.iload_n 1, 1) := by decide +kernel
theorem d_Mo_goOn_236 : decode b_Mo_goOn 236 = .ok (.iload_n 2, 1) := by decide +kernel
theorem d_Mo_goOn_237 : decode b_Mo_goOn 237 = .ok (.iconst 1, 1) := by decide +kernel
theorem d_Mo_goOn_238 : decode b_Mo_goOn 238 = .ok (.iadd, 1) := by decide +kernel
theorem d_Mo_goOn_239 : decode b_Mo_goOn 239 = .ok (.iastore, 1) := by decide +kernel
theorem d_Mo_goOn_240 : decode b_Mo_goOn 240 = .ok (.iload_n 2, 1) := by decide +kernel
theorem d_Mo_goOn_241 : decode b_Mo_goOn 241 = .ok (.bipush 8, 2) := by decide +kernel
theorem d_Mo_goOn_243 : decode b_Mo_goOn 243 = .ok (.if_icmp .ge 19, 3) := by decide +kernel
theorem d_Mo_goOn_246 : decode b_Mo_goOn 246 = .ok (.aload_n 0, 1) := by decide +kernel
theorem d_Mo_goOn_247 : decode b_Mo_goOn 247 = .ok (.iload_n 1, 1) := by decide +kernel
theorem d_Mo_goOn_248 : decode b_Mo_goOn 248 = .ok (.iconst 0, 1) := by decide +kernel
theorem d_Mo_goOn_249 : decode b_Mo_goOn 249 = .ok (.iload_n 2, 1) := by decide +kernel
theorem d_Mo_goOn_250 : decode b_Mo_goOn 250 = .ok (.iconst 1, 1) := by decide +kernel
theorem d_Mo_goOn_251 : decode b_Mo_goOn 251 = .ok (.iadd, 1) := by decide +kernel
theorem d_Mo_goOn_252 : decode b_Mo_goOn 252 = .ok (.iload_n 1, 1) := by decide +kernel
theorem d_Mo_goOn_253 : decode b_Mo_goOn 253 = .ok (.aload_n 0, 1) := by decide +kernel
theorem d_Mo_goOn_254 : decode b_Mo_goOn 254 = .ok (.getfield 47, 3) := by decide +kernel
theorem d_Mo_goOn_257 : decode b_Mo_goOn 257 = .ok (.iload_n 1, 1) := by decide +kernel
theorem d_Mo_goOn_258 : decode b_Mo_goOn 258 = .ok (.iaload, 1) := by decide +kernel
theorem d_Mo_goOn_259 : decode b_Mo_goOn 259 = .ok (.invokevirtual 74, 3) := by decide +kernel
theorem d_Mo_goOn_262 : decode b_Mo_goOn 262 = .ok (.iconst 1, 1) := by decide +kernel
theorem d_Mo_goOn_263 : decode b_Mo_goOn 263 = .ok (.ireturn, 1) := by decide +kernel
theorem d_Mo_receiveFromLog_0 : decode b_Mo_receiveFromLog 0 = .ok (.aload_n 0, 1) := by decide +kernel
theorem d_Mo_receiveFromLog_1 : decode b_Mo_receiveFromLog 1 = .ok (.getfield 13, 3) := by decide +kernel
theorem d_Mo_receiveFromLog_4 : decode b_Mo_receiveFromLog 4 = .ok (.sipush 140, 3) := by decide +kernel
theorem d_Mo_receiveFromLog_7 : decode b_Mo_receiveFromLog 7 = .ok (.iload_n 2, 1) := by decide +kernel
theorem d_Mo_receiveFromLog_8 : decode b_Mo_receiveFromLog 8 = .ok (.imul, 1) := by decide +kernel
theorem d_Mo_receiveFromLog_9 : decode b_Mo_receiveFromLog 9 = .ok (.aload_n 0, 1) := by decide +kernel
theorem d_Mo_receiveFromLog_10 : decode b_Mo_receiveFromLog 10 = .ok (.getfield 20, 3) := by decide +kernel
theorem d_Mo_receiveFromLog_13 : decode b_Mo_receiveFromLog 13 = .ok (.bipush 7, 2) := by decide +kernel
theorem d_Mo_receiveFromLog_15 : decode b_Mo_receiveFromLog 15 = .ok (.iload_n 1, 1) := by decide +kernel
theorem d_Mo_receiveFromLog_16 : decode b_Mo_receiveFromLog 16 = .ok (.imul, 1) := by decide +kernel
theorem d_Mo_receiveFromLog_17 : decode b_Mo_receiveFromLog 17 = .ok (.iload_n 2, 1) := by decide +kernel
theorem d_Mo_receiveFromLog_18 : decode b_Mo_receiveFromLog 18 = .ok (.iadd, 1) := by decide +kernel
theorem d_Mo_receiveFromLog_19 : decode b_Mo_receiveFromLog 19 = .ok (.iaload, 1) := by decide +kernel
theorem d_Mo_receiveFromLog_20 : decode b_Mo_receiveFromLog 20 = .ok (.iadd, 1) := by decide +kernel
theorem d_Mo_receiveFromLog_21 : decode b_Mo_receiveFromLog 21 = .ok (.iaload, 1) := by decide +kernel
theorem d_Mo_receiveFromLog_22 : decode b_Mo_receiveFromLog 22 = .ok (.istore_n 3, 1) := by decide +kernel
theorem d_Mo_receiveFromLog_23 : decode b_Mo_receiveFromLog 23 = .ok (.aload_n 0, 1) := by decide +kernel
theorem d_Mo_receiveFromLog_24 : decode b_Mo_receiveFromLog 24 = .ok (.getfield 20, 3) := by decide +kernel
theorem d_Mo_receiveFromLog_27 : decode b_Mo_receiveFromLog 27 = .ok (.bipush 7, 2) := by decide +kernel
theorem d_Mo_receiveFromLog_29 : decode b_Mo_receiveFromLog 29 = .ok (.iload_n 1, 1) := by decide +kernel
theorem d_Mo_receiveFromLog_30 : decode b_Mo_receiveFromLog 30 = .ok (.imul, 1) := by decide +kernel
theorem d_Mo_receiveFromLog_31 : decode b_Mo_receiveFromLog 31 = .ok (.iload_n 2, 1) := by decide +kernel
theorem d_Mo_receiveFromLog_32 : decode b_Mo_receiveFromLog 32 = .ok (.iadd, 1) := by decide +kernel
theorem d_Mo_receiveFromLog_33 : decode b_Mo_receiveFromLog 33 = .ok (.aload_n 0, 1) := by decide +kernel
theorem d_Mo_receiveFromLog_34 : decode b_Mo_receiveFromLog 34 = .ok (.getfield 20, 3) := by decide +kernel
theorem d_Mo_receiveFromLog_37 : decode b_Mo_receiveFromLog 37 = .ok (.bipush 7, 2) := by decide +kernel
theorem d_Mo_receiveFromLog_39 : decode b_Mo_receiveFromLog 39 = .ok (.iload_n 1, 1) := by decide +kernel
theorem d_Mo_receiveFromLog_40 : decode b_Mo_receiveFromLog 40 = .ok (.imul, 1) := by decide +kernel
theorem d_Mo_receiveFromLog_41 : decode b_Mo_receiveFromLog 41 = .ok (.iload_n 2, 1) := by decide +kernel
theorem d_Mo_receiveFromLog_42 : decode b_Mo_receiveFromLog 42 = .ok (.iadd, 1) := by decide +kernel
theorem d_Mo_receiveFromLog_43 : decode b_Mo_receiveFromLog 43 = .ok (.iaload, 1) := by decide +kernel
theorem d_Mo_receiveFromLog_44 : decode b_Mo_receiveFromLog 44 = .ok (.iconst 1, 1) := by decide +kernel
theorem d_Mo_receiveFromLog_45 : decode b_Mo_receiveFromLog 45 = .ok (.iadd, 1) := by decide +kernel
theorem d_Mo_receiveFromLog_46 : decode b_Mo_receiveFromLog 46 = .ok (.iastore, 1) := by decide +kernel
theorem d_Mo_receiveFromLog_47 : decode b_Mo_receiveFromLog 47 = .ok (.aload_n 0, 1) := by decide +kernel
theorem d_Mo_receiveFromLog_48 : decode b_Mo_receiveFromLog 48 = .ok (.iload_n 1, 1) := by decide +kernel
theorem d_Mo_receiveFromLog_49 : decode b_Mo_receiveFromLog 49 = .ok (.iload_n 2, 1) := by decide +kernel
theorem d_Mo_receiveFromLog_50 : decode b_Mo_receiveFromLog 50 = .ok (.iload_n 3, 1) := by decide +kernel
theorem d_Mo_receiveFromLog_51 : decode b_Mo_receiveFromLog 51 = .ok (.bipush 10, 2) := by decide +kernel
theorem d_Mo_receiveFromLog_53 : decode b_Mo_receiveFromLog 53 = .ok (.idiv, 1) := by decide +kernel
theorem d_Mo_receiveFromLog_54 : decode b_Mo_receiveFromLog 54 = .ok (.bipush 10, 2) := by decide +kernel
theorem d_Mo_receiveFromLog_56 : decode b_Mo_receiveFromLog 56 = .ok (.irem, 1) := by decide +kernel
theorem d_Mo_receiveFromLog_57 : decode b_Mo_receiveFromLog 57 = .ok (.iload_n 3, 1) := by decide +kernel
theorem d_Mo_receiveFromLog_58 : decode b_Mo_receiveFromLog 58 = .ok (.sipush 1000, 3) := by decide +kernel
theorem d_Mo_receiveFromLog_61 : decode b_Mo_receiveFromLog 61 = .ok (.idiv, 1) := by decide +kernel
theorem d_Mo_receiveFromLog_62 : decode b_Mo_receiveFromLog 62 = .ok (.iload_n 3, 1) := by decide +kernel
theorem d_Mo_receiveFromLog_63 : decode b_Mo_receiveFromLog 63 = .ok (.bipush 100, 2) := by decide +kernel
theorem d_Mo_receiveFromLog_65 : decode b_Mo_receiveFromLog 65 = .ok (.idiv, 1) := by decide +kernel
theorem d_Mo_receiveFromLog_66 : decode b_Mo_receiveFromLog 66 = .ok (.bipush 10, 2) := by decide +kernel
theorem d_Mo_receiveFromLog_68 : decode b_Mo_receiveFromLog 68 = .ok (.irem, 1) := by decide +kernel
theorem d_Mo_receiveFromLog_69 : decode b_Mo_receiveFromLog 69 = .ok (.iload_n 3, 1) := by decide +kernel
theorem d_Mo_receiveFromLog_70 : decode b_Mo_receiveFromLog 70 = .ok (.bipush 10, 2) := by decide +kernel
theorem d_Mo_receiveFromLog_72 : decode b_Mo_receiveFromLog 72 = .ok (.irem, 1) := by decide +kernel
theorem d_Mo_receiveFromLog_73 : decode b_Mo_receiveFromLog 73 = .ok (.invokevirtual 82, 3) := by decide +kernel
theorem d_Mo_receiveFromLog_76 : decode b_Mo_receiveFromLog 76 = .ok (.pop, 1) := by decide +kernel
theorem d_Mo_receiveFromLog_77 : decode b_Mo_receiveFromLog 77 = .ok (.return_, 1) := by decide +kernel
theorem d_Mo_can_0 : decode b_Mo_can 0 = .ok (.aload_n 0, 1) := by decide +kernel
theorem d_Mo_can_1 : decode b_Mo_can 1 = .ok (.getfield 29, 3) := by decide +kernel
theorem d_Mo_can_4 : decode b_Mo_can 4 = .ok (.iload_n 1, 1) := by decide +kernel
theorem d_Mo_can_5 : decode b_Mo_can 5 = .ok (.iload_n 2, 1) := by decide +kernel
theorem d_Mo_can_6 : decode b_Mo_can 6 = .ok (.iload_n 3, 1) := by decide +kernel
theorem d_Mo_can_7 : decode b_Mo_can 7 = .ok (.invokestatic 70, 3) := by decide +kernel
theorem d_Mo_can_10 : decode b_Mo_can 10 = .ok (.iaload, 1) := by decide +kernel
theorem d_Mo_can_11 : decode b_Mo_can 11 = .ok (.iconst 1, 1) := by decide +kernel
theorem d_Mo_can_12 : decode b_Mo_can 12 = .ok (.isub, 1) := by decide +kernel
theorem d_Mo_can_13 : decode b_Mo_can 13 = .ok (.istore 4, 2) := by decide +kernel
theorem d_Mo_can_15 : decode b_Mo_can 15 = .ok (.iload_n 2, 1) := by decide +kernel
theorem d_Mo_can_16 : decode b_Mo_can 16 = .ok (.ifCond .ne 15, 3) := by decide +kernel
theorem d_Mo_can_19 : decode b_Mo_can 19 = .ok (.iload 4, 2) := by decide +kernel
theorem d_Mo_can_21 : decode b_Mo_can 21 = .ok (.iconst 2, 1) := by decide +kernel
theorem d_Mo_can_22 : decode b_Mo_can 22 = .ok (.if_icmp .ge 7, 3) := by decide +kernel
theorem d_Mo_can_25 : decode b_Mo_can 25 = .ok (.iconst 1, 1) := by decide +kernel
theorem d_Mo_can_26 : decode b_Mo_can 26 = .ok (.goto 4, 3) := by decide +kernel
theorem d_Mo_can_29 : decode b_Mo_can 29 = .ok (.iconst 0, 1) := by decide +kernel
theorem d_Mo_can_30 : decode b_Mo_can 30 = .ok (.ireturn, 1) := by decide +kernel
theorem d_Mo_can_31 : decode b_Mo_can 31 = .ok (.iload_n 2, 1) := by decide +kernel
theorem d_Mo_can_32 : decode b_Mo_can 32 = .ok (.iconst 3, 1) := by decide +kernel
theorem d_Mo_can_33 : decode b_Mo_can 33 = .ok (.irem, 1) := by decide +kernel
theorem d_Mo_can_34 : decode b_Mo_can 34 = .ok (.iconst 2, 1) := by decide +kernel
theorem d_Mo_can_35 : decode b_Mo_can 35 = .ok (.if_icmp .eq 28, 3) := by decide +kernel
theorem d_Mo_can_38 : decode b_Mo_can 38 = .ok (.iload 4, 2) := by decide +kernel
theorem d_Mo_can_40 : decode b_Mo_can 40 = .ok (.iconst 2, 1) := by decide +kernel
theorem d_Mo_can_41 : decode b_Mo_can 41 = .ok (.if_icmp .ge 20, 3) := by decide +kernel
theorem d_Mo_can_44 : decode b_Mo_can 44 = .ok (.aload_n 0, 1) := by decide +kernel
theorem d_Mo_can_45 : decode b_Mo_can 45 = .ok (.iload_n 1, 1) := by decide +kernel
theorem d_Mo_can_46 : decode b_Mo_can 46 = .ok (.iload_n 2, 1) := by decide +kernel
theorem d_Mo_can_47 : decode b_Mo_can 47 = .ok (.iconst 1, 1) := by decide +kernel
theorem d_Mo_can_48 : decode b_Mo_can 48 = .ok (.isub, 1) := by decide +kernel
theorem d_Mo_can_49 : decode b_Mo_can 49 = .ok (.iload 4, 2) := by decide +kernel
theorem d_Mo_can_51 : decode b_Mo_can 51 = .ok (.invokevirtual 90, 3) := by decide +kernel
theorem d_Mo_can_54 : decode b_Mo_can 54 = .ok (.ifCond .eq 7, 3) := by decide +kernel
theorem d_Mo_can_57 : decode b_Mo_can 57 = .ok (.iconst 1, 1) := by decide +kernel
theorem d_Mo_can_58 : decode b_Mo_can 58 = .ok (.goto 4, 3) := by decide +kernel
theorem d_Mo_can_61 : decode b_Mo_can 61 = .ok (.iconst 0, 1) := by decide +kernel
theorem d_Mo_can_62 : decode b_Mo_can 62 = .ok (.ireturn, 1) := by decide +kernel
theorem d_Mo_can_63 : decode b_Mo_can 63 = .ok (.iload 4, 2) := by decide +kernel
theorem d_Mo_can_65 : decode b_Mo_can 65 = .ok (.iconst 1, 1) := by decide +kernel
theorem d_Mo_can_66 : decode b_Mo_can 66 = .ok (.if_icmp .gt 39, 3) := by decide +kernel
theorem d_Mo_can_69 : decode b_Mo_can 69 = .ok (.aload_n 0, 1) := by decide +kernel
theorem d_Mo_can_70 : decode b_Mo_can 70 = .ok (.getfield 32, 3) := by decide +kernel
theorem d_Mo_can_73 : decode b_Mo_can 73 = .ok (.iload_n 1, 1) := by decide +kernel
theorem d_Mo_can_74 : decode b_Mo_can 74 = .ok (.iload_n 2, 1) := by decide +kernel
theorem d_Mo_can_75 : decode b_Mo_can 75 = .ok (.iconst 1, 1) := by decide +kernel
theorem d_Mo_can_76 : decode b_Mo_can 76 = .ok (.isub, 1) := by decide +kernel
theorem d_Mo_can_77 : decode b_Mo_can 77 = .ok (.iload_n 3, 1) := by decide +kernel
theorem d_Mo_can_78 : decode b_Mo_can 78 = .ok (.invokestatic 70, 3) := by decide +kernel
theorem d_Mo_can_81 : decode b_Mo_can 81 = .ok (.baload, 1) := by decide +kernel
theorem d_Mo_can_82 : decode b_Mo_can 82 = .ok (.ifCond .eq 27, 3) := by decide +kernel
theorem d_Mo_can_85 : decode b_Mo_can 85 = .ok (.aload_n 0, 1) := by decide +kernel
theorem d_Mo_can_86 : decode b_Mo_can 86 = .ok (.getfield 29, 3) := by decide +kernel
theorem d_Mo_can_89 : decode b_Mo_can 89 = .ok (.iload_n 1, 1) := by decide +kernel
theorem d_Mo_can_90 : decode b_Mo_can 90 = .ok (.iload_n 2, 1) := by decide +kernel
theorem d_Mo_can_91 : decode b_Mo_can 91 = .ok (.iconst 1, 1) := by decide +kernel
theorem d_Mo_can_92 : decode b_Mo_can 92 = .ok (.isub, 1) := by decide +kernel
theorem d_Mo_can_93 : decode b_Mo_can 93 = .ok (.iload_n 3, 1) := by decide +kernel
theorem d_Mo_can_94 : decode b_Mo_can 94 = .ok (.invokestatic 70, 3) := by decide +kernel
theorem d_Mo_can_97 : decode b_Mo_can 97 = .ok (.iaload, 1) := by decide +kernel
theorem d_Mo_can_98 : decode b_Mo_can 98 = .ok (.iload 4, 2) := by decide +kernel
theorem d_Mo_can_100 : decode b_Mo_can 100 = .ok (.iconst 1, 1) := by decide +kernel
theorem d_Mo_can_101 : decode b_Mo_can 101 = .ok (.iadd, 1) := by decide +kernel
theorem d_Mo_can_102 : decode b_Mo_can 102 = .ok (.if_icmp .ne 7, 3) := by decide +kernel
theorem d_Mo_can_105 : decode b_Mo_can 105 = .ok (.iconst 1, 1) := by decide +kernel
theorem d_Mo_can_106 : decode b_Mo_can 106 = .ok (.goto 4, 3) := by decide +kernel
theorem d_Mo_can_109 : decode b_Mo_can 109 = .ok (.iconst 0, 1) := by decide +kernel
theorem d_Mo_can_110 : decode b_Mo_can 110 = .ok (.istore 5, 2) := by decide +kernel
theorem d_Mo_can_112 : decode b_Mo_can 112 = .ok (.iload 5, 2) := by decide +kernel
theorem d_Mo_can_114 : decode b_Mo_can 114 = .ok (.ifCond .eq 20, 3) := by decide +kernel
theorem d_Mo_can_117 : decode b_Mo_can 117 = .ok (.aload_n 0, 1) := by decide +kernel
theorem d_Mo_can_118 : decode b_Mo_can 118 = .ok (.iload_n 1, 1) := by decide +kernel
theorem d_Mo_can_119 : decode b_Mo_can 119 = .ok (.iload_n 2, 1) := by decide +kernel
theorem d_Mo_can_120 : decode b_Mo_can 120 = .ok (.iconst 1, 1) := by decide +kernel
theorem d_Mo_can_121 : decode b_Mo_can 121 = .ok (.isub, 1) := by decide +kernel
theorem d_Mo_can_122 : decode b_Mo_can 122 = .ok (.iload 4, 2) := by decide +kernel
theorem d_Mo_can_124 : decode b_Mo_can 124 = .ok (.invokevirtual 90, 3) := by decide +kernel
theorem d_Mo_can_127 : decode b_Mo_can 127 = .ok (.ifCond .eq 7, 3) := by decide +kernel
theorem d_Mo_can_130 : decode b_Mo_can 130 = .ok (.iconst 1, 1) := by decide +kernel
theorem d_Mo_can_131 : decode b_Mo_can 131 = .ok (.goto 4, 3) := by decide +kernel
theorem d_Mo_can_134 : decode b_Mo_can 134 = .ok (.iconst 0, 1) := by decide +kernel
theorem d_Mo_can_135 : decode b_Mo_can 135 = .ok (.ireturn, 1) := by decide +kernel
theorem d_Mo_validate_0 : decode b_Mo_validate 0 = .ok (.iconst 0, 1) := by decide +kernel
theorem d_Mo_validate_1 : decode b_Mo_validate 1 = .ok (.istore_n 2, 1) := by decide +kernel
theorem d_Mo_validate_2 : decode b_Mo_validate 2 = .ok (.iload_n 2, 1) := by decide +kernel
theorem d_Mo_validate_3 : decode b_Mo_validate 3 = .ok (.bipush 9, 2) := by decide +kernel
theorem d_Mo_validate_5 : decode b_Mo_validate 5 = .ok (.if_icmp .ge 123, 3) := by decide +kernel
theorem d_Mo_validate_8 : decode b_Mo_validate 8 = .ok (.iconst 0, 1) := by decide +kernel
theorem d_Mo_validate_9 : decode b_Mo_validate 9 = .ok (.istore_n 3, 1) := by decide +kernel
theorem d_Mo_validate_10 : decode b_Mo_validate 10 = .ok (.iload_n 3, 1) := by decide +kernel
theorem d_Mo_validate_11 : decode b_Mo_validate 11 = .ok (.aload_n 0, 1) := by decide +kernel
theorem d_Mo_validate_12 : decode b_Mo_validate 12 = .ok (.getfield 59, 3) := by decide +kernel
theorem d_Mo_validate_15 : decode b_Mo_validate 15 = .ok (.if_icmp .ge 107, 3) := by decide +kernel
theorem d_Mo_validate_18 : decode b_Mo_validate 18 = .ok (.aload_n 0, 1) := by decide +kernel
theorem d_Mo_validate_19 : decode b_Mo_validate 19 = .ok (.getfield 29, 3) := by decide +kernel
theorem d_Mo_validate_22 : decode b_Mo_validate 22 = .ok (.iload_n 1, 1) := by decide +kernel
theorem d_Mo_validate_23 : decode b_Mo_validate 23 = .ok (.iload_n 2, 1) := by decide +kernel
theorem d_Mo_validate_24 : decode b_Mo_validate 24 = .ok (.iload_n 3, 1) := by decide +kernel
theorem d_Mo_validate_25 : decode b_Mo_validate 25 = .ok (.invokestatic 70, 3) := by decide +kernel
theorem d_Mo_validate_28 : decode b_Mo_validate 28 = .ok (.iaload, 1) := by decide +kernel
theorem d_Mo_validate_29 : decode b_Mo_validate 29 = .ok (.ifCond .le 87, 3) := by decide +kernel
theorem d_Mo_validate_32 : decode b_Mo_validate 32 = .ok (.aload_n 0, 1) := by decide +kernel
theorem d_Mo_validate_33 : decode b_Mo_validate 33 = .ok (.getfield 32, 3) := by decide +kernel
theorem d_Mo_validate_36 : decode b_Mo_validate 36 = .ok (.iload_n 1, 1) := by decide +kernel
theorem d_Mo_validate_37 : decode b_Mo_validate 37 = .ok (.iload_n 2, 1) := by decide +kernel
theorem d_Mo_validate_38 : decode b_Mo_validate 38 = .ok (.iload_n 3, 1) := by decide +kernel
theorem d_Mo_validate_39 : decode b_Mo_validate 39 = .ok (.invokestatic 70, 3) := by decide +kernel
theorem d_Mo_validate_42 : decode b_Mo_validate 42 = .ok (.baload, 1) := by decide +kernel
theorem d_Mo_validate_43 : decode b_Mo_validate 43 = .ok (.ifCond .ne 73, 3) := by decide +kernel
theorem d_Mo_validate_46 : decode b_Mo_validate 46 = .ok (.aload_n 0, 1) := by decide +kernel
theorem d_Mo_validate_47 : decode b_Mo_validate 47 = .ok (.iload_n 1, 1) := by decide +kernel
theorem d_Mo_validate_48 : decode b_Mo_validate 48 = .ok (.iload_n 2, 1) := by decide +kernel
theorem d_Mo_validate_49 : decode b_Mo_validate 49 = .ok (.iload_n 3, 1) := by decide +kernel
theorem d_Mo_validate_50 : decode b_Mo_validate 50 = .ok (.invokevirtual 94, 3) := by decide +kernel
theorem d_Mo_validate_53 : decode b_Mo_validate 53 = .ok (.ifCond .eq 63, 3) := by decide +kernel
theorem d_Mo_validate_56 : decode b_Mo_validate 56 = .ok (.aload_n 0, 1) := by decide +kernel
theorem d_Mo_validate_57 : decode b_Mo_validate 57 = .ok (.getfield 32, 3) := by decide +kernel
theorem d_Mo_validate_60 : decode b_Mo_validate 60 = .ok (.iload_n 1, 1) := by decide +kernel
theorem d_Mo_validate_61 : decode b_Mo_validate 61 = .ok (.iload_n 2, 1) := by decide +kernel
theorem d_Mo_validate_62 : decode b_Mo_validate 62 = .ok (.iload_n 3, 1) := by decide +kernel
theorem d_Mo_validate_63 : decode b_Mo_validate 63 = .ok (.invokestatic 70, 3) := by decide +kernel
theorem d_Mo_validate_66 : decode b_Mo_validate 66 = .ok (.iconst 1, 1) := by decide +kernel
theorem d_Mo_validate_67 : decode b_Mo_validate 67 = .ok (.bastore, 1) := by decide +kernel
theorem d_Mo_validate_68 : decode b_Mo_validate 68 = .ok (.aload_n 0, 1) := by decide +kernel
theorem d_Mo_validate_69 : decode b_Mo_validate 69 = .ok (.getfield 35, 3) := by decide +kernel
theorem d_Mo_validate_72 : decode b_Mo_validate 72 = .ok (.iload_n 1, 1) := by decide +kernel
theorem d_Mo_validate_73 : decode b_Mo_validate 73 = .ok (.iload_n 2, 1) := by decide +kernel
theorem d_Mo_validate_74 : decode b_Mo_validate 74 = .ok (.aload_n 0, 1) := by decide +kernel
theorem d_Mo_validate_75 : decode b_Mo_validate 75 = .ok (.getfield 38, 3) := by decide +kernel
theorem d_Mo_validate_78 : decode b_Mo_validate 78 = .ok (.bipush 9, 2) := by decide +kernel
theorem d_Mo_validate_80 : decode b_Mo_validate 80 = .ok (.iload_n 1, 1) := by decide +kernel
theorem d_Mo_validate_81 : decode b_Mo_validate 81 = .ok (.imul, 1) := by decide +kernel
theorem d_Mo_validate_82 : decode b_Mo_validate 82 = .ok (.iload_n 2, 1) := by decide +kernel
theorem d_Mo_validate_83 : decode b_Mo_validate 83 = .ok (.iadd, 1) := by decide +kernel
theorem d_Mo_validate_84 : decode b_Mo_validate 84 = .ok (.iaload, 1) := by decide +kernel
theorem d_Mo_validate_85 : decode b_Mo_validate 85 = .ok (.invokestatic 70, 3) := by decide +kernel
theorem d_Mo_validate_88 : decode b_Mo_validate 88 = .ok (.iload_n 3, 1) := by decide +kernel
theorem d_Mo_validate_89 : decode b_Mo_validate 89 = .ok (.iastore, 1) := by decide +kernel
theorem d_Mo_validate_90 : decode b_Mo_validate 90 = .ok (.aload_n 0, 1) := by decide +kernel
theorem d_Mo_validate_91 : decode b_Mo_validate 91 = .ok (.getfield 38, 3) := by decide +kernel
theorem d_Mo_validate_94 : decode b_Mo_validate 94 = .ok (.bipush 9, 2) := by decide +kernel
theorem d_Mo_validate_96 : decode b_Mo_validate 96 = .ok (.iload_n 1, 1) := by decide +kernel
theorem d_Mo_validate_97 : decode b_Mo_validate 97 = .ok (.imul, 1) := by decide +kernel
theorem d_Mo_validate_98 : decode b_Mo_validate 98 = .ok (.iload_n 2, 1) := by decide +kernel
theorem d_Mo_validate_99 : decode b_Mo_validate 99 = .ok (.iadd, 1) := by decide +kernel
theorem d_Mo_validate_100 : decode b_Mo_validate 100 = .ok (.aload_n 0, 1) := by decide +kernel
theorem d_Mo_validate_101 : decode b_Mo_validate 101 = .ok (.getfield 38, 3) := by decide +kernel
theorem d_Mo_validate_104 : decode b_Mo_validate 104 = .ok (.bipush 9, 2) := by decide +kernel
theorem d_Mo_validate_106 : decode b_Mo_validate 106 = .ok (.iload_n 1, 1) := by decide +kernel
theorem d_Mo_validate_107 : decode b_Mo_validate 107 = .ok (.imul, 1) := by decide +kernel
theorem d_Mo_validate_108 : decode b_Mo_validate 108 = .ok (.iload_n 2, 1) := by decide +kernel
theorem d_Mo_validate_109 : decode b_Mo_validate 109 = .ok (.iadd, 1) := by decide +kernel
theorem d_Mo_validate_110 : decode b_Mo_validate 110 = .ok (.iaload, 1) := by decide +kernel
theorem d_Mo_validate_111 : decode b_Mo_validate 111 = .ok (.iconst 1, 1) := by decide +kernel
theorem d_Mo_validate_112 : decode b_Mo_validate 112 = .ok (.iadd, 1) := by decide +kernel
theorem d_Mo_validate_113 : decode b_Mo_validate 113 = .ok (.iastore, 1) := by decide +kernel
theorem d_Mo_validate_114 : decode b_Mo_validate 114 = .ok (.iconst 1, 1) := by decide +kernel
theorem d_Mo_validate_115 : decode b_Mo_validate 115 = .ok (.ireturn, 1) := by decide +kernel
theorem d_Mo_validate_116 : decode b_Mo_validate 116 = .ok (.iinc 3 1, 3) := by decide +kernel
theorem d_Mo_validate_119 : decode b_Mo_validate 119 = .ok (.goto (-109), 3) := by decide +kernel
theorem d_Mo_validate_122 : decode b_Mo_validate 122 = .ok (.iinc 2 1, 3) := by decide +kernel
theorem d_Mo_validate_125 : decode b_Mo_validate 125 = .ok (.goto (-123), 3) := by decide +kernel
theorem d_Mo_validate_128 : decode b_Mo_validate 128 = .ok (.iconst 0, 1) := by decide +kernel
theorem d_Mo_validate_129 : decode b_Mo_validate 129 = .ok (.ireturn, 1) := by decide +kernel
theorem d_Mo_settle_0 : decode b_Mo_settle 0 = .ok (.iconst 1, 1) := by decide +kernel
theorem d_Mo_settle_1 : decode b_Mo_settle 1 = .ok (.istore_n 2, 1) := by decide +kernel
theorem d_Mo_settle_2 : decode b_Mo_settle 2 = .ok (.iconst 0, 1) := by decide +kernel
theorem d_Mo_settle_3 : decode b_Mo_settle 3 = .ok (.istore_n 3, 1) := by decide +kernel
theorem d_Mo_settle_4 : decode b_Mo_settle 4 = .ok (.iload_n 3, 1) := by decide +kernel
theorem d_Mo_settle_5 : decode b_Mo_settle 5 = .ok (.sipush 2000, 3) := by decide +kernel
theorem d_Mo_settle_8 : decode b_Mo_settle 8 = .ok (.if_icmp .ge 62, 3) := by decide +kernel
theorem d_Mo_settle_11 : decode b_Mo_settle 11 = .ok (.iload_n 2, 1) := by decide +kernel
theorem d_Mo_settle_12 : decode b_Mo_settle 12 = .ok (.ifCond .eq 58, 3) := by decide +kernel
theorem d_Mo_settle_15 : decode b_Mo_settle 15 = .ok (.aload_n 0, 1) := by decide +kernel
theorem d_Mo_settle_16 : decode b_Mo_settle 16 = .ok (.getfield 20, 3) := by decide +kernel
theorem d_Mo_settle_19 : decode b_Mo_settle 19 = .ok (.bipush 8, 2) := by decide +kernel
theorem d_Mo_settle_21 : decode b_Mo_settle 21 = .ok (.iload_n 1, 1) := by decide +kernel
theorem d_Mo_settle_22 : decode b_Mo_settle 22 = .ok (.imul, 1) := by decide +kernel
theorem d_Mo_settle_23 : decode b_Mo_settle 23 = .ok (.iaload, 1) := by decide +kernel
theorem d_Mo_settle_24 : decode b_Mo_settle 24 = .ok (.aload_n 0, 1) := by decide +kernel
theorem d_Mo_settle_25 : decode b_Mo_settle 25 = .ok (.getfield 17, 3) := by decide +kernel
theorem d_Mo_settle_28 : decode b_Mo_settle 28 = .ok (.iload_n 1, 1) := by decide +kernel
theorem d_Mo_settle_29 : decode b_Mo_settle 29 = .ok (.iaload, 1) := by decide +kernel
theorem d_Mo_settle_30 : decode b_Mo_settle 30 = .ok (.if_icmp .ge 12, 3) := by decide +kernel
theorem d_Mo_settle_33 : decode b_Mo_settle 33 = .ok (.aload_n 0, 1) := by decide +kernel
theorem d_Mo_settle_34 : decode b_Mo_settle 34 = .ok (.iload_n 1, 1) := by decide +kernel
theorem d_Mo_settle_35 : decode b_Mo_settle 35 = .ok (.iload_n 1, 1) := by decide +kernel
theorem d_Mo_settle_36 : decode b_Mo_settle 36 = .ok (.invokevirtual 105, 3) := by decide +kernel
theorem d_Mo_settle_39 : decode b_Mo_settle 39 = .ok (.goto 25, 3) := by decide +kernel
theorem d_Mo_settle_42 : decode b_Mo_settle 42 = .ok (.aload_n 0, 1) := by decide +kernel
theorem d_Mo_settle_43 : decode b_Mo_settle 43 = .ok (.iload_n 1, 1) := by decide +kernel
theorem d_Mo_settle_44 : decode b_Mo_settle 44 = .ok (.invokevirtual 109, 3) := by decide +kernel
theorem d_Mo_settle_47 : decode b_Mo_settle 47 = .ok (.ifCond .ne 11, 3) := by decide +kernel
theorem d_Mo_settle_50 : decode b_Mo_settle 50 = .ok (.aload_n 0, 1) := by decide +kernel
theorem d_Mo_settle_51 : decode b_Mo_settle 51 = .ok (.iload_n 1, 1) := by decide +kernel
theorem d_Mo_settle_52 : decode b_Mo_settle 52 = .ok (.invokevirtual 112, 3) := by decide +kernel
theorem d_Mo_settle_55 : decode b_Mo_settle 55 = .ok (.ifCond .eq 7, 3) := by decide +kernel
theorem d_Mo_settle_58 : decode b_Mo_settle 58 = .ok (.iconst 1, 1) := by decide +kernel
theorem d_Mo_settle_59 : decode b_Mo_settle 59 = .ok (.goto 4, 3) := by decide +kernel
theorem d_Mo_settle_62 : decode b_Mo_settle 62 = .ok (.iconst 0, 1) := by decide +kernel
theorem d_Mo_settle_63 : decode b_Mo_settle 63 = .ok (.istore_n 2, 1) := by decide +kernel
theorem d_Mo_settle_64 : decode b_Mo_settle 64 = .ok (.iinc 3 1, 3) := by decide +kernel
theorem d_Mo_settle_67 : decode b_Mo_settle 67 = .ok (.goto (-63), 3) := by decide +kernel
theorem d_Mo_settle_70 : decode b_Mo_settle 70 = .ok (.return_, 1) := by decide +kernel
theorem d_Mo_start_0 : decode b_Mo_start 0 = .ok (.aload_n 0, 1) := by decide +kernel
theorem d_Mo_start_1 : decode b_Mo_start 1 = .ok (.iload_n 1, 1) := by decide +kernel
theorem d_Mo_start_2 : decode b_Mo_start 2 = .ok (.invokevirtual 115, 3) := by decide +kernel
theorem d_Mo_start_5 : decode b_Mo_start 5 = .ok (.ifCond .eq 21, 3) := by decide +kernel
theorem d_Mo_start_8 : decode b_Mo_start 8 = .ok (.aload_n 0, 1) := by decide +kernel
theorem d_Mo_start_9 : decode b_Mo_start 9 = .ok (.getfield 44, 3) := by decide +kernel
theorem d_Mo_start_12 : decode b_Mo_start 12 = .ok (.iload_n 1, 1) := by decide +kernel
theorem d_Mo_start_13 : decode b_Mo_start 13 = .ok (.iaload, 1) := by decide +kernel
theorem d_Mo_start_14 : decode b_Mo_start 14 = .ok (.ifCond .ge 12, 3) := by decide +kernel
theorem d_Mo_start_17 : decode b_Mo_start 17 = .ok (.iload_n 2, 1) := by decide +kernel
theorem d_Mo_start_18 : decode b_Mo_start 18 = .ok (.ifCond .lt 8, 3) := by decide +kernel
theorem d_Mo_start_21 : decode b_Mo_start 21 = .ok (.iload_n 2, 1) := by decide +kernel
theorem d_Mo_start_22 : decode b_Mo_start 22 = .ok (.iconst 1, 1) := by decide +kernel
theorem d_Mo_start_23 : decode b_Mo_start 23 = .ok (.if_icmp .le 5, 3) := by decide +kernel
theorem d_Mo_start_26 : decode b_Mo_start 26 = .ok (.iconst 0, 1) := by decide +kernel
theorem d_Mo_start_27 : decode b_Mo_start 27 = .ok (.ireturn, 1) := by decide +kernel
theorem d_Mo_start_28 : decode b_Mo_start 28 = .ok (.aload_n 0, 1) := by decide +kernel
theorem d_Mo_start_29 : decode b_Mo_start 29 = .ok (.getfield 44, 3) := by decide +kernel
theorem d_Mo_start_32 : decode b_Mo_start 32 = .ok (.iload_n 1, 1) := by decide +kernel
theorem d_Mo_start_33 : decode b_Mo_start 33 = .ok (.iconst 0, 1) := by decide +kernel
theorem d_Mo_start_34 : decode b_Mo_start 34 = .ok (.iastore, 1) := by decide +kernel
theorem d_Mo_start_35 : decode b_Mo_start 35 = .ok (.aload_n 0, 1) := by decide +kernel
theorem d_Mo_start_36 : decode b_Mo_start 36 = .ok (.getfield 47, 3) := by decide +kernel
theorem d_Mo_start_39 : decode b_Mo_start 39 = .ok (.iload_n 1, 1) := by decide +kernel
theorem d_Mo_start_40 : decode b_Mo_start 40 = .ok (.iload_n 2, 1) := by decide +kernel
theorem d_Mo_start_41 : decode b_Mo_start 41 = .ok (.iastore, 1) := by decide +kernel
theorem d_Mo_start_42 : decode b_Mo_start 42 = .ok (.aload_n 0, 1) := by decide +kernel
theorem d_Mo_start_43 : decode b_Mo_start 43 = .ok (.iload_n 1, 1) := by decide +kernel
theorem d_Mo_start_44 : decode b_Mo_start 44 = .ok (.iconst 0, 1) := by decide +kernel
theorem d_Mo_start_45 : decode b_Mo_start 45 = .ok (.iconst 0, 1) := by decide +kernel
theorem d_Mo_start_46 : decode b_Mo_start 46 = .ok (.iload_n 1, 1) := by decide +kernel
theorem d_Mo_start_47 : decode b_Mo_start 47 = .ok (.iload_n 2, 1) := by decide +kernel
theorem d_Mo_start_48 : decode b_Mo_start 48 = .ok (.invokevirtual 74, 3) := by decide +kernel
theorem d_Mo_start_51 : decode b_Mo_start 51 = .ok (.aload_n 0, 1) := by decide +kernel
theorem d_Mo_start_52 : decode b_Mo_start 52 = .ok (.iload_n 1, 1) := by decide +kernel
theorem d_Mo_start_53 : decode b_Mo_start 53 = .ok (.invokevirtual 118, 3) := by decide +kernel
theorem d_Mo_start_56 : decode b_Mo_start 56 = .ok (.iconst 1, 1) := by decide +kernel
theorem d_Mo_start_57 : decode b_Mo_start 57 = .ok (.ireturn, 1) := by decide +kernel
theorem d_Mo_pass_0 : decode b_Mo_pass 0 = .ok (.aload_n 0, 1) := by decide +kernel
theorem d_Mo_pass_1 : decode b_Mo_pass 1 = .ok (.iload_n 1, 1) := by decide +kernel
theorem d_Mo_pass_2 : decode b_Mo_pass 2 = .ok (.invokevirtual 66, 3) := by decide +kernel
theorem d_Mo_pass_5 : decode b_Mo_pass 5 = .ok (.ifCond .eq 27, 3) := by decide +kernel
theorem d_Mo_pass_8 : decode b_Mo_pass 8 = .ok (.aload_n 0, 1) := by decide +kernel
theorem d_Mo_pass_9 : decode b_Mo_pass 9 = .ok (.iload_n 2, 1) := by decide +kernel
theorem d_Mo_pass_10 : decode b_Mo_pass 10 = .ok (.invokevirtual 115, 3) := by decide +kernel
theorem d_Mo_pass_13 : decode b_Mo_pass 13 = .ok (.ifCond .eq 19, 3) := by decide +kernel
theorem d_Mo_pass_16 : decode b_Mo_pass 16 = .ok (.iload_n 1, 1) := by decide +kernel
theorem d_Mo_pass_17 : decode b_Mo_pass 17 = .ok (.iload_n 2, 1) := by decide +kernel
theorem d_Mo_pass_18 : decode b_Mo_pass 18 = .ok (.if_icmp .eq 14, 3) := by decide +kernel
theorem d_Mo_pass_21 : decode b_Mo_pass 21 = .ok (.iload_n 3, 1) := by decide +kernel
theorem d_Mo_pass_22 : decode b_Mo_pass 22 = .ok (.iconst 1, 1) := by decide +kernel
theorem d_Mo_pass_23 : decode b_Mo_pass 23 = .ok (.if_icmp .lt 9, 3) := by decide +kernel
theorem d_Mo_pass_26 : decode b_Mo_pass 26 = .ok (.iload_n 3, 1) := by decide +kernel
theorem d_Mo_pass_27 : decode b_Mo_pass 27 = .ok (.bipush 100, 2) := by decide +kernel
theorem d_Mo_pass_29 : decode b_Mo_pass 29 = .ok (.if_icmp .le 5, 3) := by decide +kernel
theorem d_Mo_pass_32 : decode b_Mo_pass 32 = .ok (.iconst (-1), 1) := by decide +kernel
theorem d_Mo_pass_33 : decode b_Mo_pass 33 = .ok (.ireturn, 1) := by decide +kernel
theorem d_Mo_pass_34 : decode b_Mo_pass 34 = .ok (.iconst 0, 1) := by decide +kernel
theorem d_Mo_pass_35 : decode b_Mo_pass 35 = .ok (.istore 4, 2) := by decide +kernel
theorem d_Mo_pass_37 : decode b_Mo_pass 37 = .ok (.iload 4, 2) := by decide +kernel
theorem d_Mo_pass_39 : decode b_Mo_pass 39 = .ok (.iload_n 3, 1) := by decide +kernel
theorem d_Mo_pass_40 : decode b_Mo_pass 40 = .ok (.if_icmp .ge 43, 3) := by decide +kernel
theorem d_Mo_pass_43 : decode b_Mo_pass 43 = .ok (.aload_n 0, 1) := by decide +kernel
theorem d_Mo_pass_44 : decode b_Mo_pass 44 = .ok (.getfield 20, 3) := by decide +kernel
theorem d_Mo_pass_47 : decode b_Mo_pass 47 = .ok (.bipush 7, 2) := by decide +kernel
theorem d_Mo_pass_49 : decode b_Mo_pass 49 = .ok (.iload_n 2, 1) := by decide +kernel
theorem d_Mo_pass_50 : decode b_Mo_pass 50 = .ok (.imul, 1) := by decide +kernel
theorem d_Mo_pass_51 : decode b_Mo_pass 51 = .ok (.iload_n 1, 1) := by decide +kernel
theorem d_Mo_pass_52 : decode b_Mo_pass 52 = .ok (.iadd, 1) := by decide +kernel
theorem d_Mo_pass_53 : decode b_Mo_pass 53 = .ok (.iaload, 1) := by decide +kernel
theorem d_Mo_pass_54 : decode b_Mo_pass 54 = .ok (.aload_n 0, 1) := by decide +kernel
theorem d_Mo_pass_55 : decode b_Mo_pass 55 = .ok (.getfield 17, 3) := by decide +kernel
theorem d_Mo_pass_58 : decode b_Mo_pass 58 = .ok (.iload_n 1, 1) := by decide +kernel
theorem d_Mo_pass_59 : decode b_Mo_pass 59 = .ok (.iaload, 1) := by decide +kernel
theorem d_Mo_pass_60 : decode b_Mo_pass 60 = .ok (.if_icmp .ge 23, 3) := by decide +kernel
theorem d_Mo_pass_63 : decode b_Mo_pass 63 = .ok (.aload_n 0, 1) := by decide +kernel
theorem d_Mo_pass_64 : decode b_Mo_pass 64 = .ok (.iload_n 2, 1) := by decide +kernel
theorem d_Mo_pass_65 : decode b_Mo_pass 65 = .ok (.iload_n 1, 1) := by decide +kernel
theorem d_Mo_pass_66 : decode b_Mo_pass 66 = .ok (.invokevirtual 105, 3) := by decide +kernel
theorem d_Mo_pass_69 : decode b_Mo_pass 69 = .ok (.aload_n 0, 1) := by decide +kernel
theorem d_Mo_pass_70 : decode b_Mo_pass 70 = .ok (.iload_n 2, 1) := by decide +kernel
theorem d_Mo_pass_71 : decode b_Mo_pass 71 = .ok (.invokevirtual 118, 3) := by decide +kernel
theorem d_Mo_pass_74 : decode b_Mo_pass 74 = .ok (.iload 4, 2) := by decide +kernel
theorem d_Mo_pass_76 : decode b_Mo_pass 76 = .ok (.iconst 1, 1) := by decide +kernel
theorem d_Mo_pass_77 : decode b_Mo_pass 77 = .ok (.iadd, 1) := by decide +kernel
theorem d_Mo_pass_78 : decode b_Mo_pass 78 = .ok (.istore 4, 2) := by decide +kernel
theorem d_Mo_pass_80 : decode b_Mo_pass 80 = .ok (.goto (-43), 3) := by decide +kernel
theorem d_Mo_pass_83 : decode b_Mo_pass 83 = .ok (.iload 4, 2) := by decide +kernel
theorem d_Mo_pass_85 : decode b_Mo_pass 85 = .ok (.ireturn, 1) := by decide +kernel
theorem d_Mo_forge_0 : decode b_Mo_forge 0 = .ok (.aload_n 0, 1) := by decide +kernel
theorem d_Mo_forge_1 : decode b_Mo_forge 1 = .ok (.iload_n 1, 1) := by decide +kernel
theorem d_Mo_forge_2 : decode b_Mo_forge 2 = .ok (.invokevirtual 66, 3) := by decide +kernel
theorem d_Mo_forge_5 : decode b_Mo_forge 5 = .ok (.ifCond .eq 51, 3) := by decide +kernel
theorem d_Mo_forge_8 : decode b_Mo_forge 8 = .ok (.aload_n 0, 1) := by decide +kernel
theorem d_Mo_forge_9 : decode b_Mo_forge 9 = .ok (.getfield 7, 3) := by decide +kernel
theorem d_Mo_forge_12 : decode b_Mo_forge 12 = .ok (.iload_n 1, 1) := by decide +kernel
theorem d_Mo_forge_13 : decode b_Mo_forge 13 = .ok (.baload, 1) := by decide +kernel
theorem d_Mo_forge_14 : decode b_Mo_forge 14 = .ok (.ifCond .eq 42, 3) := by decide +kernel
theorem d_Mo_forge_17 : decode b_Mo_forge 17 = .ok (.aload_n 0, 1) := by decide +kernel
theorem d_Mo_forge_18 : decode b_Mo_forge 18 = .ok (.iload_n 2, 1) := by decide +kernel
theorem d_Mo_forge_19 : decode b_Mo_forge 19 = .ok (.invokevirtual 115, 3) := by decide +kernel
theorem d_Mo_forge_22 : decode b_Mo_forge 22 = .ok (.ifCond .eq 34, 3) := by decide +kernel
theorem d_Mo_forge_25 : decode b_Mo_forge 25 = .ok (.iload_n 3, 1) := by decide +kernel
theorem d_Mo_forge_26 : decode b_Mo_forge 26 = .ok (.ifCond .lt 30, 3) := by decide +kernel
theorem d_Mo_forge_29 : decode b_Mo_forge 29 = .ok (.iload_n 3, 1) := by decide +kernel
theorem d_Mo_forge_30 : decode b_Mo_forge 30 = .ok (.bipush 8, 2) := by decide +kernel
theorem d_Mo_forge_32 : decode b_Mo_forge 32 = .ok (.if_icmp .gt 24, 3) := by decide +kernel
theorem d_Mo_forge_35 : decode b_Mo_forge 35 = .ok (.aload_n 0, 1) := by decide +kernel
theorem d_Mo_forge_36 : decode b_Mo_forge 36 = .ok (.iload 4, 2) := by decide +kernel
theorem d_Mo_forge_38 : decode b_Mo_forge 38 = .ok (.invokevirtual 66, 3) := by decide +kernel
theorem d_Mo_forge_41 : decode b_Mo_forge 41 = .ok (.ifCond .eq 15, 3) := by decide +kernel
theorem d_Mo_forge_44 : decode b_Mo_forge 44 = .ok (.iload 5, 2) := by decide +kernel
theorem d_Mo_forge_46 : decode b_Mo_forge 46 = .ok (.ifCond .lt 10, 3) := by decide +kernel
theorem d_Mo_forge_49 : decode b_Mo_forge 49 = .ok (.iload 5, 2) := by decide +kernel
theorem d_Mo_forge_51 : decode b_Mo_forge 51 = .ok (.bipush 11, 2) := by decide +kernel
theorem d_Mo_forge_53 : decode b_Mo_forge 53 = .ok (.if_icmp .le 5, 3) := by decide +kernel
theorem d_Mo_forge_56 : decode b_Mo_forge 56 = .ok (.iconst 0, 1) := by decide +kernel
theorem d_Mo_forge_57 : decode b_Mo_forge 57 = .ok (.ireturn, 1) := by decide +kernel
theorem d_Mo_forge_58 : decode b_Mo_forge 58 = .ok (.aload_n 0, 1) := by decide +kernel
theorem d_Mo_forge_59 : decode b_Mo_forge 59 = .ok (.iload_n 2, 1) := by decide +kernel
theorem d_Mo_forge_60 : decode b_Mo_forge 60 = .ok (.iload_n 1, 1) := by decide +kernel
theorem d_Mo_forge_61 : decode b_Mo_forge 61 = .ok (.iload 5, 2) := by decide +kernel
theorem d_Mo_forge_63 : decode b_Mo_forge 63 = .ok (.iconst 4, 1) := by decide +kernel
theorem d_Mo_forge_64 : decode b_Mo_forge 64 = .ok (.idiv, 1) := by decide +kernel
theorem d_Mo_forge_65 : decode b_Mo_forge 65 = .ok (.iload_n 3, 1) := by decide +kernel
theorem d_Mo_forge_66 : decode b_Mo_forge 66 = .ok (.iload 4, 2) := by decide +kernel
end
section
theorem d_Mo_forge_68 : decode b_Mo_forge 68 = .ok (.iload 5, 2) := by decide +kernel
theorem d_Mo_forge_70 : decode b_Mo_forge 70 = .ok (.iconst 4, 1) := by decide +kernel
theorem d_Mo_forge_71 : decode b_Mo_forge 71 = .ok (.irem, 1) := by decide +kernel
theorem d_Mo_forge_72 : decode b_Mo_forge 72 = .ok (.invokevirtual 82, 3) := by decide +kernel
theorem d_Mo_forge_75 : decode b_Mo_forge 75 = .ok (.istore 6, 2) := by decide +kernel
theorem d_Mo_forge_77 : decode b_Mo_forge 77 = .ok (.aload_n 0, 1) := by decide +kernel
theorem d_Mo_forge_78 : decode b_Mo_forge 78 = .ok (.iload_n 2, 1) := by decide +kernel
theorem d_Mo_forge_79 : decode b_Mo_forge 79 = .ok (.invokevirtual 118, 3) := by decide +kernel
theorem d_Mo_forge_82 : decode b_Mo_forge 82 = .ok (.iload 6, 2) := by decide +kernel
theorem d_Mo_forge_84 : decode b_Mo_forge 84 = .ok (.ireturn, 1) := by decide +kernel
end
section
/-! Mo_init -/
abbrev rm_Mo_init : Room := { frames := 1, cells := 16, slots := 9517, locals := 20 }
def f_Mo_init_177_b (self : Int → Int → Int → er_Me → er_Me → Option (er_Me × er_Me)) (v0 v1 v2 : Int) (T M : er_Me) : Option (er_Me × er_Me) :=
  if 7 ≤ v2 then
  some (T, M)
  else
  if T v0 (-2) = 7 ∧ 0 < T v0 13 then
  if T (T v0 13) (-2) = 101 ∧ 0 ≤ v2 ∧ v2 < T (T v0 13) (-1) then
  er_le (er_up M (T v0 13) v2 (-1)) fun M3 =>
  if 0 < T v0 15 then
  if T (T v0 15) (-2) = 101 ∧ v2 < T (T v0 15) (-1) then
  er_le (er_up M3 (T v0 15) v2 (-1)) fun M5 =>
  er_le (er_add v2 1) fun x6 =>
  self v0 v1 x6 T M5 else none else none else none else none
def f_Mo_init_177 : Nat → Int → Int → Int → er_Me → er_Me → Option (er_Me × er_Me)
  | 0 => fun _ _ _ _ _ => none
  | n + 1 => fun v0 v1 v2 T M => f_Mo_init_177_b (f_Mo_init_177 n) v0 v1 v2 T M
set_option maxHeartbeats 4000000 in
theorem w_Mo_init_177_b {K : er_K} {l : Launch} {X : er_X} (cx : er_Cx K l X b_Mo_init "EchoedRoundsModel" 3 rm_Mo_init) (hin : er_In K) {r : er_Me × er_Me} (rt : er_Rt K X b_Mo_init (none) 16 9517 none r.1 r.2) {self : Int → Int → Int → er_Me → er_Me → Option (er_Me × er_Me)} (hself : ∀ (v0 v1 v2 : Int) (T M : er_Me), self v0 v1 v2 T M = some r → er_G K 16 9517 T M 177 [(0, .inr v0), (1, .inl v1), (2, .inl v2)] []) : ∀ (v0 v1 v2 : Int) (T M : er_Me), f_Mo_init_177_b self v0 v1 v2 T M = some r → er_G K 16 9517 T M 177 [(0, .inr v0), (1, .inl v1), (2, .inl v2)] [] := by
  intro v0 v1 v2 T M h
  unfold f_Mo_init_177_b at h
  refine er_iload_n cx d_Mo_init_177 2 rfl ?_
  refine er_bipush (v := 7) cx d_Mo_init_178 (by decide +kernel) (by decide) ?_
  refine er_ic_ge (tgt := 203) cx d_Mo_init_180 (by decide) (fun b1 => ?_) (fun b1 => ?_)
  · have h := er_ift h b1
    obtain rfl := Option.some.inj h
    exact er_vret rt d_Mo_init_203 (by decide) (by decide) ⟨rfl, rfl, rfl⟩
  · have h := er_iff h b1
    refine er_aload_n cx d_Mo_init_183 0 rfl ?_
    obtain ⟨c2, h⟩ := er_ck h
    refine er_getr cx d_Mo_init_184 fd_Mo_44 c2.1 c2.2 ?_
    refine er_iload_n cx d_Mo_init_187 2 rfl ?_
    refine er_iconst (v := -1) cx d_Mo_init_188 rfl (by decide) ?_
    obtain ⟨c3, h⟩ := er_ck h
    obtain ⟨M3, e3, h⟩ := er_lel h
    refine er_iast cx d_Mo_init_189 c3.1 c3.2.1 c3.2.2 e3 ?_
    refine er_aload_n cx d_Mo_init_190 0 rfl ?_
    obtain ⟨c4, h⟩ := er_ck h
    refine er_getr cx d_Mo_init_191 fd_Mo_50 c2.1 c4 ?_
    refine er_iload_n cx d_Mo_init_194 2 rfl ?_
    refine er_iconst (v := -1) cx d_Mo_init_195 rfl (by decide) ?_
    obtain ⟨c5, h⟩ := er_ck h
    obtain ⟨M5, e5, h⟩ := er_lel h
    refine er_iast cx d_Mo_init_196 c5.1 c3.2.1 c5.2 e5 ?_
    obtain ⟨x6, e6, h⟩ := er_lel h
    refine er_iinc cx d_Mo_init_197 (k := 2) rfl (by decide) e6 rfl ?_
    refine er_goto (tgt := 177) cx d_Mo_init_200 (by decide) ?_
    refine er_sb cx [1, 2, 0] rfl ?_
    exact hself _ _ _ _ _ h
theorem w_Mo_init_177 {K : er_K} {l : Launch} {X : er_X} (cx : er_Cx K l X b_Mo_init "EchoedRoundsModel" 3 rm_Mo_init) (hin : er_In K) {r : er_Me × er_Me} (rt : er_Rt K X b_Mo_init (none) 16 9517 none r.1 r.2) : ∀ n : Nat, ∀ (v0 v1 v2 : Int) (T M : er_Me), f_Mo_init_177 n v0 v1 v2 T M = some r → er_G K 16 9517 T M 177 [(0, .inr v0), (1, .inl v1), (2, .inl v2)] [] := by
  intro n
  induction n with
  | zero =>
    intro v0 v1 v2 T M h
    cases h
  | succ n ih =>
    intro v0 v1 v2 T M h
    exact w_Mo_init_177_b cx hin rt ih v0 v1 v2 T M h
def f_Mo_init_160 (v0 v1 s0 s1 : Int) (T M : er_Me) : Option (er_Me × er_Me) :=
  if T s0 (-2) = 7 then
  er_le (er_up M s0 0 s1) fun M1 =>
  if T v0 (-2) = 7 then
  er_le (er_up M1 v0 1 (er_div (er_sub (M1 v0 0) 1) 3)) fun M3 =>
  f_Mo_init_177 er_fu v0 v1 0 T M3 else none else none
set_option maxHeartbeats 4000000 in
theorem w_Mo_init_160 {K : er_K} {l : Launch} {X : er_X} (cx : er_Cx K l X b_Mo_init "EchoedRoundsModel" 3 rm_Mo_init) (hin : er_In K) {r : er_Me × er_Me} (rt : er_Rt K X b_Mo_init (none) 16 9517 none r.1 r.2) : ∀ (v0 v1 s0 s1 : Int) (T M : er_Me), f_Mo_init_160 v0 v1 s0 s1 T M = some r → er_G K 16 9517 T M 160 [(0, .inr v0), (1, .inl v1)] [.inl s1, .inr s0] := by
  intro v0 v1 s0 s1 T M h
  unfold f_Mo_init_160 at h
  obtain ⟨c1, h⟩ := er_ck h
  obtain ⟨M1, e1, h⟩ := er_lel h
  refine er_puti cx d_Mo_init_160 fd_Mo_59 c1 (fun _ => ⟨hin, rfl, rfl⟩) e1 ?_
  refine er_aload_n cx d_Mo_init_163 0 rfl ?_
  refine er_aload_n cx d_Mo_init_164 0 rfl ?_
  obtain ⟨c2, h⟩ := er_ck h
  refine er_geti cx d_Mo_init_165 fd_Mo_59 c2 ?_
  refine er_iconst (v := 1) cx d_Mo_init_168 rfl (by decide) ?_
  refine er_isub cx d_Mo_init_169 ?_
  refine er_iconst (v := 3) cx d_Mo_init_170 rfl (by decide) ?_
  refine er_idiv cx d_Mo_init_171 (by decide) ?_
  obtain ⟨M3, e3, h⟩ := er_lel h
  refine er_puti cx d_Mo_init_172 fd_Mo_63 c2 (fun _ => ⟨hin, rfl, rfl⟩) e3 ?_
  refine er_iconst (v := 0) cx d_Mo_init_175 rfl (by decide) ?_
  refine er_istore_n cx d_Mo_init_176 rfl (by decide) rfl ?_
  refine er_sb cx [1, 2, 0] rfl ?_
  exact w_Mo_init_177 cx hin rt er_fu _ _ _ _ _ h
def f_Mo_init (p0 p1 : Int) (T M : er_Me) : Option (er_Me × er_Me) :=
  er_le (T 0 0 + 1) fun b2 =>
  er_le (er_nw T 102 7) fun T2 =>
  er_le (er_mw M b2) fun M2 =>
  if T2 p0 (-2) = 7 ∧ 0 < b2 then
  er_le (er_up T2 p0 2 b2) fun T3 =>
  er_le (T3 0 0 + 1) fun b4 =>
  er_le (er_nw T3 101 980) fun T4 =>
  er_le (er_mw M2 b4) fun M4 =>
  if T4 p0 (-2) = 7 ∧ 0 < b4 then
  er_le (er_up T4 p0 3 b4) fun T5 =>
  er_le (T5 0 0 + 1) fun b6 =>
  er_le (er_nw T5 101 7) fun T6 =>
  er_le (er_mw M4 b6) fun M6 =>
  if T6 p0 (-2) = 7 ∧ 0 < b6 then
  er_le (er_up T6 p0 4 b6) fun T7 =>
  er_le (T7 0 0 + 1) fun b8 =>
  er_le (er_nw T7 101 49) fun T8 =>
  er_le (er_mw M6 b8) fun M8 =>
  if T8 p0 (-2) = 7 ∧ 0 < b8 then
  er_le (er_up T8 p0 5 b8) fun T9 =>
  er_le (T9 0 0 + 1) fun b10 =>
  er_le (er_nw T9 102 441) fun T10 =>
  er_le (er_mw M8 b10) fun M10 =>
  if T10 p0 (-2) = 7 ∧ 0 < b10 then
  er_le (er_up T10 p0 6 b10) fun T11 =>
  er_le (T11 0 0 + 1) fun b12 =>
  er_le (er_nw T11 102 441) fun T12 =>
  er_le (er_mw M10 b12) fun M12 =>
  if T12 p0 (-2) = 7 ∧ 0 < b12 then
  er_le (er_up T12 p0 7 b12) fun T13 =>
  er_le (T13 0 0 + 1) fun b14 =>
  er_le (er_nw T13 101 441) fun T14 =>
  er_le (er_mw M12 b14) fun M14 =>
  if T14 p0 (-2) = 7 ∧ 0 < b14 then
  er_le (er_up T14 p0 8 b14) fun T15 =>
  er_le (T15 0 0 + 1) fun b16 =>
  er_le (er_nw T15 102 441) fun T16 =>
  er_le (er_mw M14 b16) fun M16 =>
  if T16 p0 (-2) = 7 ∧ 0 < b16 then
  er_le (er_up T16 p0 9 b16) fun T17 =>
  er_le (T17 0 0 + 1) fun b18 =>
  er_le (er_nw T17 101 441) fun T18 =>
  er_le (er_mw M16 b18) fun M18 =>
  if T18 p0 (-2) = 7 ∧ 0 < b18 then
  er_le (er_up T18 p0 10 b18) fun T19 =>
  er_le (T19 0 0 + 1) fun b20 =>
  er_le (er_nw T19 101 63) fun T20 =>
  er_le (er_mw M18 b20) fun M20 =>
  if T20 p0 (-2) = 7 ∧ 0 < b20 then
  er_le (er_up T20 p0 11 b20) fun T21 =>
  er_le (T21 0 0 + 1) fun b22 =>
  er_le (er_nw T21 101 6174) fun T22 =>
  er_le (er_mw M20 b22) fun M22 =>
  if T22 p0 (-2) = 7 ∧ 0 < b22 then
  er_le (er_up T22 p0 12 b22) fun T23 =>
  er_le (T23 0 0 + 1) fun b24 =>
  er_le (er_nw T23 101 7) fun T24 =>
  er_le (er_mw M22 b24) fun M24 =>
  if T24 p0 (-2) = 7 ∧ 0 < b24 then
  er_le (er_up T24 p0 13 b24) fun T25 =>
  er_le (T25 0 0 + 1) fun b26 =>
  er_le (er_nw T25 101 7) fun T26 =>
  er_le (er_mw M24 b26) fun M26 =>
  if T26 p0 (-2) = 7 ∧ 0 < b26 then
  er_le (er_up T26 p0 14 b26) fun T27 =>
  er_le (T27 0 0 + 1) fun b28 =>
  er_le (er_nw T27 101 7) fun T28 =>
  er_le (er_mw M26 b28) fun M28 =>
  if T28 p0 (-2) = 7 ∧ 0 < b28 then
  er_le (er_up T28 p0 15 b28) fun T29 =>
  er_le (T29 0 0 + 1) fun b30 =>
  er_le (er_nw T29 101 7) fun T30 =>
  er_le (er_mw M28 b30) fun M30 =>
  if T30 p0 (-2) = 7 ∧ 0 < b30 then
  er_le (er_up T30 p0 16 b30) fun T31 =>
  er_le (T31 0 0 + 1) fun b32 =>
  er_le (er_nw T31 101 4) fun T32 =>
  er_le (er_mw M30 b32) fun M32 =>
  if T32 p0 (-2) = 7 ∧ 0 < b32 then
  er_le (er_up T32 p0 17 b32) fun T33 =>
  if 4 ≤ p1 then
  if p1 ≤ 7 then
  f_Mo_init_160 p0 p1 p0 p1 T33 M32
  else
  f_Mo_init_160 p0 p1 p0 7 T33 M32
  else
  f_Mo_init_160 p0 p1 p0 4 T33 M32 else none else none else none else none else none else none else none else none else none else none else none else none else none else none else none else none
set_option maxHeartbeats 4000000 in
theorem w_Mo_init {K : er_K} {l : Launch} {X : er_X} (cx : er_Cx K l X b_Mo_init "EchoedRoundsModel" 3 rm_Mo_init) (hin : er_In K) {r : er_Me × er_Me} {p0 p1 : Int} {T M : er_Me} (rt : er_Rt K X b_Mo_init (none) 16 9517 none r.1 r.2) (h : f_Mo_init p0 p1 T M = some r) : er_G K 0 0 T M 0 [(0, .inr p0), (1, .inl p1)] [] := by
  unfold f_Mo_init at h
  refine er_aload_n cx d_Mo_init_0 0 rfl ?_
  refine er_obj cx d_Mo_init_1 wm_377 wm_15 wm_16 (by decide) (Nat.le_of_ble_eq_true rfl) ?_
  refine er_aload_n cx d_Mo_init_4 0 rfl ?_
  refine er_bipush (v := 7) cx d_Mo_init_5 (by decide +kernel) (by decide) ?_
  obtain ⟨b2, eb2, h⟩ := er_lel h
  obtain ⟨T2, eT2, h⟩ := er_lel h
  obtain ⟨M2, eM2, h⟩ := er_lel h
  refine er_newa (t := 1) (N := 7) cx d_Mo_init_7 wm_102 (by decide) rfl (by decide) rfl (by decide) (by decide) (by decide) eT2 eb2 eM2 ?_
  obtain ⟨c3, h⟩ := er_ck h
  obtain ⟨T3, e3, h⟩ := er_lel h
  refine er_putr cx d_Mo_init_9 fd_Mo_7 c3.1 (fun _ => ⟨hin, rfl, rfl⟩) (fun _ => rfl) (fun _ => rfl) c3.2 e3 ?_
  refine er_aload_n cx d_Mo_init_12 0 rfl ?_
  refine er_sipush (v := 980) cx d_Mo_init_13 (by decide +kernel) (by decide) ?_
  obtain ⟨b4, eb4, h⟩ := er_lel h
  obtain ⟨T4, eT4, h⟩ := er_lel h
  obtain ⟨M4, eM4, h⟩ := er_lel h
  refine er_newa (t := 0) (N := 980) cx d_Mo_init_16 wm_66 (by decide) rfl (by decide) rfl (by decide) (by decide) (by decide) eT4 eb4 eM4 ?_
  obtain ⟨c5, h⟩ := er_ck h
  obtain ⟨T5, e5, h⟩ := er_lel h
  refine er_putr cx d_Mo_init_18 fd_Mo_13 c5.1 (fun _ => ⟨hin, rfl, rfl⟩) (fun _ => rfl) (fun _ => rfl) c5.2 e5 ?_
  refine er_aload_n cx d_Mo_init_21 0 rfl ?_
  refine er_bipush (v := 7) cx d_Mo_init_22 (by decide +kernel) (by decide) ?_
  obtain ⟨b6, eb6, h⟩ := er_lel h
  obtain ⟨T6, eT6, h⟩ := er_lel h
  obtain ⟨M6, eM6, h⟩ := er_lel h
  refine er_newa (t := 0) (N := 7) cx d_Mo_init_24 wm_66 (by decide) rfl (by decide) rfl (by decide) (by decide) (by decide) eT6 eb6 eM6 ?_
  obtain ⟨c7, h⟩ := er_ck h
  obtain ⟨T7, e7, h⟩ := er_lel h
  refine er_putr cx d_Mo_init_26 fd_Mo_17 c7.1 (fun _ => ⟨hin, rfl, rfl⟩) (fun _ => rfl) (fun _ => rfl) c7.2 e7 ?_
  refine er_aload_n cx d_Mo_init_29 0 rfl ?_
  refine er_bipush (v := 49) cx d_Mo_init_30 (by decide +kernel) (by decide) ?_
  obtain ⟨b8, eb8, h⟩ := er_lel h
  obtain ⟨T8, eT8, h⟩ := er_lel h
  obtain ⟨M8, eM8, h⟩ := er_lel h
  refine er_newa (t := 0) (N := 49) cx d_Mo_init_32 wm_66 (by decide) rfl (by decide) rfl (by decide) (by decide) (by decide) eT8 eb8 eM8 ?_
  obtain ⟨c9, h⟩ := er_ck h
  obtain ⟨T9, e9, h⟩ := er_lel h
  refine er_putr cx d_Mo_init_34 fd_Mo_20 c9.1 (fun _ => ⟨hin, rfl, rfl⟩) (fun _ => rfl) (fun _ => rfl) c9.2 e9 ?_
  refine er_aload_n cx d_Mo_init_37 0 rfl ?_
  refine er_sipush (v := 441) cx d_Mo_init_38 (by decide +kernel) (by decide) ?_
  obtain ⟨b10, eb10, h⟩ := er_lel h
  obtain ⟨T10, eT10, h⟩ := er_lel h
  obtain ⟨M10, eM10, h⟩ := er_lel h
  refine er_newa (t := 1) (N := 441) cx d_Mo_init_41 wm_102 (by decide) rfl (by decide) rfl (by decide) (by decide) (by decide) eT10 eb10 eM10 ?_
  obtain ⟨c11, h⟩ := er_ck h
  obtain ⟨T11, e11, h⟩ := er_lel h
  refine er_putr cx d_Mo_init_43 fd_Mo_23 c11.1 (fun _ => ⟨hin, rfl, rfl⟩) (fun _ => rfl) (fun _ => rfl) c11.2 e11 ?_
  refine er_aload_n cx d_Mo_init_46 0 rfl ?_
  refine er_sipush (v := 441) cx d_Mo_init_47 (by decide +kernel) (by decide) ?_
  obtain ⟨b12, eb12, h⟩ := er_lel h
  obtain ⟨T12, eT12, h⟩ := er_lel h
  obtain ⟨M12, eM12, h⟩ := er_lel h
  refine er_newa (t := 1) (N := 441) cx d_Mo_init_50 wm_102 (by decide) rfl (by decide) rfl (by decide) (by decide) (by decide) eT12 eb12 eM12 ?_
  obtain ⟨c13, h⟩ := er_ck h
  obtain ⟨T13, e13, h⟩ := er_lel h
  refine er_putr cx d_Mo_init_52 fd_Mo_26 c13.1 (fun _ => ⟨hin, rfl, rfl⟩) (fun _ => rfl) (fun _ => rfl) c13.2 e13 ?_
  refine er_aload_n cx d_Mo_init_55 0 rfl ?_
  refine er_sipush (v := 441) cx d_Mo_init_56 (by decide +kernel) (by decide) ?_
  obtain ⟨b14, eb14, h⟩ := er_lel h
  obtain ⟨T14, eT14, h⟩ := er_lel h
  obtain ⟨M14, eM14, h⟩ := er_lel h
  refine er_newa (t := 0) (N := 441) cx d_Mo_init_59 wm_66 (by decide) rfl (by decide) rfl (by decide) (by decide) (by decide) eT14 eb14 eM14 ?_
  obtain ⟨c15, h⟩ := er_ck h
  obtain ⟨T15, e15, h⟩ := er_lel h
  refine er_putr cx d_Mo_init_61 fd_Mo_29 c15.1 (fun _ => ⟨hin, rfl, rfl⟩) (fun _ => rfl) (fun _ => rfl) c15.2 e15 ?_
  refine er_aload_n cx d_Mo_init_64 0 rfl ?_
  refine er_sipush (v := 441) cx d_Mo_init_65 (by decide +kernel) (by decide) ?_
  obtain ⟨b16, eb16, h⟩ := er_lel h
  obtain ⟨T16, eT16, h⟩ := er_lel h
  obtain ⟨M16, eM16, h⟩ := er_lel h
  refine er_newa (t := 1) (N := 441) cx d_Mo_init_68 wm_102 (by decide) rfl (by decide) rfl (by decide) (by decide) (by decide) eT16 eb16 eM16 ?_
  obtain ⟨c17, h⟩ := er_ck h
  obtain ⟨T17, e17, h⟩ := er_lel h
  refine er_putr cx d_Mo_init_70 fd_Mo_32 c17.1 (fun _ => ⟨hin, rfl, rfl⟩) (fun _ => rfl) (fun _ => rfl) c17.2 e17 ?_
  refine er_aload_n cx d_Mo_init_73 0 rfl ?_
  refine er_sipush (v := 441) cx d_Mo_init_74 (by decide +kernel) (by decide) ?_
  obtain ⟨b18, eb18, h⟩ := er_lel h
  obtain ⟨T18, eT18, h⟩ := er_lel h
  obtain ⟨M18, eM18, h⟩ := er_lel h
  refine er_newa (t := 0) (N := 441) cx d_Mo_init_77 wm_66 (by decide) rfl (by decide) rfl (by decide) (by decide) (by decide) eT18 eb18 eM18 ?_
  obtain ⟨c19, h⟩ := er_ck h
  obtain ⟨T19, e19, h⟩ := er_lel h
  refine er_putr cx d_Mo_init_79 fd_Mo_35 c19.1 (fun _ => ⟨hin, rfl, rfl⟩) (fun _ => rfl) (fun _ => rfl) c19.2 e19 ?_
  refine er_aload_n cx d_Mo_init_82 0 rfl ?_
  refine er_bipush (v := 63) cx d_Mo_init_83 (by decide +kernel) (by decide) ?_
  obtain ⟨b20, eb20, h⟩ := er_lel h
  obtain ⟨T20, eT20, h⟩ := er_lel h
  obtain ⟨M20, eM20, h⟩ := er_lel h
  refine er_newa (t := 0) (N := 63) cx d_Mo_init_85 wm_66 (by decide) rfl (by decide) rfl (by decide) (by decide) (by decide) eT20 eb20 eM20 ?_
  obtain ⟨c21, h⟩ := er_ck h
  obtain ⟨T21, e21, h⟩ := er_lel h
  refine er_putr cx d_Mo_init_87 fd_Mo_38 c21.1 (fun _ => ⟨hin, rfl, rfl⟩) (fun _ => rfl) (fun _ => rfl) c21.2 e21 ?_
  refine er_aload_n cx d_Mo_init_90 0 rfl ?_
  refine er_sipush (v := 6174) cx d_Mo_init_91 (by decide +kernel) (by decide) ?_
  obtain ⟨b22, eb22, h⟩ := er_lel h
  obtain ⟨T22, eT22, h⟩ := er_lel h
  obtain ⟨M22, eM22, h⟩ := er_lel h
  refine er_newa (t := 0) (N := 6174) cx d_Mo_init_94 wm_66 (by decide) rfl (by decide) rfl (by decide) (by decide) (by decide) eT22 eb22 eM22 ?_
  obtain ⟨c23, h⟩ := er_ck h
  obtain ⟨T23, e23, h⟩ := er_lel h
  refine er_putr cx d_Mo_init_96 fd_Mo_41 c23.1 (fun _ => ⟨hin, rfl, rfl⟩) (fun _ => rfl) (fun _ => rfl) c23.2 e23 ?_
  refine er_aload_n cx d_Mo_init_99 0 rfl ?_
  refine er_bipush (v := 7) cx d_Mo_init_100 (by decide +kernel) (by decide) ?_
  obtain ⟨b24, eb24, h⟩ := er_lel h
  obtain ⟨T24, eT24, h⟩ := er_lel h
  obtain ⟨M24, eM24, h⟩ := er_lel h
  refine er_newa (t := 0) (N := 7) cx d_Mo_init_102 wm_66 (by decide) rfl (by decide) rfl (by decide) (by decide) (by decide) eT24 eb24 eM24 ?_
  obtain ⟨c25, h⟩ := er_ck h
  obtain ⟨T25, e25, h⟩ := er_lel h
  refine er_putr cx d_Mo_init_104 fd_Mo_44 c25.1 (fun _ => ⟨hin, rfl, rfl⟩) (fun _ => rfl) (fun _ => rfl) c25.2 e25 ?_
  refine er_aload_n cx d_Mo_init_107 0 rfl ?_
  refine er_bipush (v := 7) cx d_Mo_init_108 (by decide +kernel) (by decide) ?_
  obtain ⟨b26, eb26, h⟩ := er_lel h
  obtain ⟨T26, eT26, h⟩ := er_lel h
  obtain ⟨M26, eM26, h⟩ := er_lel h
  refine er_newa (t := 0) (N := 7) cx d_Mo_init_110 wm_66 (by decide) rfl (by decide) rfl (by decide) (by decide) (by decide) eT26 eb26 eM26 ?_
  obtain ⟨c27, h⟩ := er_ck h
  obtain ⟨T27, e27, h⟩ := er_lel h
  refine er_putr cx d_Mo_init_112 fd_Mo_47 c27.1 (fun _ => ⟨hin, rfl, rfl⟩) (fun _ => rfl) (fun _ => rfl) c27.2 e27 ?_
  refine er_aload_n cx d_Mo_init_115 0 rfl ?_
  refine er_bipush (v := 7) cx d_Mo_init_116 (by decide +kernel) (by decide) ?_
  obtain ⟨b28, eb28, h⟩ := er_lel h
  obtain ⟨T28, eT28, h⟩ := er_lel h
  obtain ⟨M28, eM28, h⟩ := er_lel h
  refine er_newa (t := 0) (N := 7) cx d_Mo_init_118 wm_66 (by decide) rfl (by decide) rfl (by decide) (by decide) (by decide) eT28 eb28 eM28 ?_
  obtain ⟨c29, h⟩ := er_ck h
  obtain ⟨T29, e29, h⟩ := er_lel h
  refine er_putr cx d_Mo_init_120 fd_Mo_50 c29.1 (fun _ => ⟨hin, rfl, rfl⟩) (fun _ => rfl) (fun _ => rfl) c29.2 e29 ?_
  refine er_aload_n cx d_Mo_init_123 0 rfl ?_
  refine er_bipush (v := 7) cx d_Mo_init_124 (by decide +kernel) (by decide) ?_
  obtain ⟨b30, eb30, h⟩ := er_lel h
  obtain ⟨T30, eT30, h⟩ := er_lel h
  obtain ⟨M30, eM30, h⟩ := er_lel h
  refine er_newa (t := 0) (N := 7) cx d_Mo_init_126 wm_66 (by decide) rfl (by decide) rfl (by decide) (by decide) (by decide) eT30 eb30 eM30 ?_
  obtain ⟨c31, h⟩ := er_ck h
  obtain ⟨T31, e31, h⟩ := er_lel h
  refine er_putr cx d_Mo_init_128 fd_Mo_53 c31.1 (fun _ => ⟨hin, rfl, rfl⟩) (fun _ => rfl) (fun _ => rfl) c31.2 e31 ?_
  refine er_aload_n cx d_Mo_init_131 0 rfl ?_
  refine er_iconst (v := 4) cx d_Mo_init_132 rfl (by decide) ?_
  obtain ⟨b32, eb32, h⟩ := er_lel h
  obtain ⟨T32, eT32, h⟩ := er_lel h
  obtain ⟨M32, eM32, h⟩ := er_lel h
  refine er_newa (t := 0) (N := 4) cx d_Mo_init_133 wm_66 (by decide) rfl (by decide) rfl (by decide) (by decide) (by decide) eT32 eb32 eM32 ?_
  obtain ⟨c33, h⟩ := er_ck h
  obtain ⟨T33, e33, h⟩ := er_lel h
  refine er_putr cx d_Mo_init_135 fd_Mo_56 c33.1 (fun _ => ⟨hin, rfl, rfl⟩) (fun _ => rfl) (fun _ => rfl) c33.2 e33 ?_
  refine er_aload_n cx d_Mo_init_138 0 rfl ?_
  refine er_iload_n cx d_Mo_init_139 1 rfl ?_
  refine er_iconst (v := 4) cx d_Mo_init_140 rfl (by decide) ?_
  refine er_ic_ge (tgt := 148) cx d_Mo_init_141 (by decide) (fun b34 => ?_) (fun b34 => ?_)
  · have h := er_ift h b34
    refine er_iload_n cx d_Mo_init_148 1 rfl ?_
    refine er_bipush (v := 7) cx d_Mo_init_149 (by decide +kernel) (by decide) ?_
    refine er_ic_le (tgt := 159) cx d_Mo_init_151 (by decide) (fun b35 => ?_) (fun b35 => ?_)
    · have h := er_ift h b35
      refine er_iload_n cx d_Mo_init_159 1 rfl ?_
      exact w_Mo_init_160 cx hin rt _ _ _ _ _ _ h
    · have h := er_iff h b35
      refine er_bipush (v := 7) cx d_Mo_init_154 (by decide +kernel) (by decide) ?_
      refine er_goto (tgt := 160) cx d_Mo_init_156 (by decide) ?_
      exact w_Mo_init_160 cx hin rt _ _ _ _ _ _ h
  · have h := er_iff h b34
    refine er_iconst (v := 4) cx d_Mo_init_144 rfl (by decide) ?_
    refine er_goto (tgt := 160) cx d_Mo_init_145 (by decide) ?_
    exact w_Mo_init_160 cx hin rt _ _ _ _ _ _ h
theorem c_Mo_init {l : Launch} {X : er_X} {r : er_Me × er_Me} {p0 p1 : Int} {T M : er_Me} (h : f_Mo_init p0 p1 T M = some r) (hok : ∀ v ∈ ([.inr p0, .inl p1] : List er_V), er_ok v) : er_Ct l X y_Mo_init b_Mo_init 3 (none) rm_Mo_init [.inr p0, .inl p1] T M none r.1 r.2 :=
  er_ct rfl rfl (Nat.le_of_ble_eq_true rfl) hok (fun K cx rt hin => w_Mo_init cx (hin rfl) rt h)
/-! Mo_isNode -/
abbrev rm_Mo_isNode : Room := { frames := 0, cells := 0, slots := 0, locals := 0 }
def f_Mo_isNode (p0 p1 : Int) (T M : er_Me) : Option (Int × er_Me) :=
  if p1 < 0 then
  some (0, M)
  else
  if T p0 (-2) = 7 then
  if M p0 0 ≤ p1 then
  some (0, M)
  else
  some (1, M) else none
set_option maxHeartbeats 4000000 in
theorem w_Mo_isNode {K : er_K} {l : Launch} {X : er_X} (cx : er_Cx K l X b_Mo_isNode "EchoedRoundsModel" 2 rm_Mo_isNode) {r : Int × er_Me} {p0 p1 : Int} {T M : er_Me} (rt : er_Rt K X b_Mo_isNode (some .boolean) 0 0 (some (.inl r.1)) T r.2) (h : f_Mo_isNode p0 p1 T M = some r) : er_G K 0 0 T M 0 [(0, .inr p0), (1, .inl p1)] [] := by
  unfold f_Mo_isNode at h
  refine er_iload_n cx d_Mo_isNode_0 1 rfl ?_
  refine er_if_lt (tgt := 16) cx d_Mo_isNode_1 (by decide) (fun b1 => ?_) (fun b1 => ?_)
  · have h := er_ift h b1
    refine er_iconst (v := 0) cx d_Mo_isNode_16 rfl (by decide) ?_
    obtain rfl := Option.some.inj h
    exact er_iret rt (Or.inr ⟨rfl, Or.inl rfl⟩) d_Mo_isNode_17 (by decide) (by decide) ⟨rfl, rfl, rfl⟩
  · have h := er_iff h b1
    refine er_iload_n cx d_Mo_isNode_4 1 rfl ?_
    refine er_aload_n cx d_Mo_isNode_5 0 rfl ?_
    obtain ⟨c3, h⟩ := er_ck h
    refine er_geti cx d_Mo_isNode_6 fd_Mo_59 c3 ?_
    refine er_ic_ge (tgt := 16) cx d_Mo_isNode_9 (by decide) (fun b4 => ?_) (fun b4 => ?_)
    · have h := er_ift h b4
      refine er_iconst (v := 0) cx d_Mo_isNode_16 rfl (by decide) ?_
      obtain rfl := Option.some.inj h
      exact er_iret rt (Or.inr ⟨rfl, Or.inl rfl⟩) d_Mo_isNode_17 (by decide) (by decide) ⟨rfl, rfl, rfl⟩
    · have h := er_iff h b4
      refine er_iconst (v := 1) cx d_Mo_isNode_12 rfl (by decide) ?_
      refine er_goto (tgt := 17) cx d_Mo_isNode_13 (by decide) ?_
      obtain rfl := Option.some.inj h
      exact er_iret rt (Or.inr ⟨rfl, Or.inr rfl⟩) d_Mo_isNode_17 (by decide) (by decide) ⟨rfl, rfl, rfl⟩
theorem c_Mo_isNode {l : Launch} {X : er_X} {r : Int × er_Me} {p0 p1 : Int} {T M : er_Me} (h : f_Mo_isNode p0 p1 T M = some r) (hok : ∀ v ∈ ([.inr p0, .inl p1] : List er_V), er_ok v) : er_Ct l X y_Mo_isNode b_Mo_isNode 2 (some .boolean) rm_Mo_isNode [.inr p0, .inl p1] T M (some (.inl r.1)) T r.2 :=
  er_ct rfl rfl (Nat.le_of_ble_eq_true rfl) hok (fun K cx rt hin => w_Mo_isNode cx rt h)
/-! Mo_at -/
abbrev rm_Mo_at : Room := { frames := 0, cells := 0, slots := 0, locals := 0 }
def f_Mo_at (p0 p1 p2 : Int) (T M : er_Me) : Option (Int × er_Me) :=
  some (er_add (er_add (er_mul 63 p0) (er_mul 7 p1)) p2, M)
set_option maxHeartbeats 4000000 in
theorem w_Mo_at {K : er_K} {l : Launch} {X : er_X} (cx : er_Cx K l X b_Mo_at "EchoedRoundsModel" 3 rm_Mo_at) {r : Int × er_Me} {p0 p1 p2 : Int} {T M : er_Me} (rt : er_Rt K X b_Mo_at (some .int) 0 0 (some (.inl r.1)) T r.2) (h : f_Mo_at p0 p1 p2 T M = some r) : er_G K 0 0 T M 0 [(0, .inl p0), (1, .inl p1), (2, .inl p2)] [] := by
  unfold f_Mo_at at h
  refine er_bipush (v := 63) cx d_Mo_at_0 (by decide +kernel) (by decide) ?_
  refine er_iload_n cx d_Mo_at_2 0 rfl ?_
  refine er_imul cx d_Mo_at_3 ?_
  refine er_bipush (v := 7) cx d_Mo_at_4 (by decide +kernel) (by decide) ?_
  refine er_iload_n cx d_Mo_at_6 1 rfl ?_
  refine er_imul cx d_Mo_at_7 ?_
  refine er_iadd cx d_Mo_at_8 ?_
  refine er_iload_n cx d_Mo_at_9 2 rfl ?_
  refine er_iadd cx d_Mo_at_10 ?_
  obtain rfl := Option.some.inj h
  exact er_iret rt (Or.inl rfl) d_Mo_at_11 (by decide) (by decide) ⟨rfl, rfl, rfl⟩
theorem c_Mo_at {l : Launch} {X : er_X} {r : Int × er_Me} {p0 p1 p2 : Int} {T M : er_Me} (h : f_Mo_at p0 p1 p2 T M = some r) (hok : ∀ v ∈ ([.inl p0, .inl p1, .inl p2] : List er_V), er_ok v) : er_Ct l X y_Mo_at b_Mo_at 3 (some .int) rm_Mo_at [.inl p0, .inl p1, .inl p2] T M (some (.inl r.1)) T r.2 :=
  er_ct rfl rfl (Nat.le_of_ble_eq_true rfl) hok (fun K cx rt hin => w_Mo_at cx rt h)
/-! Mo_count -/
abbrev rm_Mo_count : Room := { frames := 0, cells := 0, slots := 0, locals := 0 }
def f_Mo_count_6_b (self : Int → Int → Int → Int → Int → Int → Int → Int → er_Me → Option (Int × er_Me)) (v0 v1 v2 v3 v4 v5 v6 v7 : Int) (T M : er_Me) : Option (Int × er_Me) :=
  if T v0 (-2) = 7 then
  if M v0 0 ≤ v7 then
  some (v6, M)
  else
  if 0 < T v0 12 then
  if T (T v0 12) (-2) = 101 ∧ 0 ≤ er_add (er_add (er_add (er_mul 126 (er_add (er_mul 7 v1) v7)) (er_mul 63 (er_sub v2 1))) (er_mul 7 v3)) v4 ∧ er_add (er_add (er_add (er_mul 126 (er_add (er_mul 7 v1) v7)) (er_mul 63 (er_sub v2 1))) (er_mul 7 v3)) v4 < T (T v0 12) (-1) then
  if M (T v0 12) (er_add (er_add (er_add (er_mul 126 (er_add (er_mul 7 v1) v7)) (er_mul 63 (er_sub v2 1))) (er_mul 7 v3)) v4) = er_add v5 1 then
  er_le (er_add v7 1) fun x8 =>
  self v0 v1 v2 v3 v4 v5 (er_add v6 1) x8 M
  else
  er_le (er_add v7 1) fun x7 =>
  self v0 v1 v2 v3 v4 v5 v6 x7 M else none else none else none
def f_Mo_count_6 : Nat → er_Me → Int → Int → Int → Int → Int → Int → Int → Int → er_Me → Option (Int × er_Me)
  | 0, _ => fun _ _ _ _ _ _ _ _ _ => none
  | n + 1, T => fun v0 v1 v2 v3 v4 v5 v6 v7 M => f_Mo_count_6_b (f_Mo_count_6 n T) v0 v1 v2 v3 v4 v5 v6 v7 T M
set_option maxHeartbeats 4000000 in
theorem w_Mo_count_6_b {K : er_K} {l : Launch} {X : er_X} (cx : er_Cx K l X b_Mo_count "EchoedRoundsModel" 8 rm_Mo_count) {r : Int × er_Me} {T : er_Me} (rt : er_Rt K X b_Mo_count (some .int) 0 0 (some (.inl r.1)) T r.2) {self : Int → Int → Int → Int → Int → Int → Int → Int → er_Me → Option (Int × er_Me)} (hself : ∀ (v0 v1 v2 v3 v4 v5 v6 v7 : Int) (M : er_Me), self v0 v1 v2 v3 v4 v5 v6 v7 M = some r → er_G K 0 0 T M 6 [(0, .inr v0), (1, .inl v1), (2, .inl v2), (3, .inl v3), (4, .inl v4), (5, .inl v5), (6, .inl v6), (7, .inl v7)] []) : ∀ (v0 v1 v2 v3 v4 v5 v6 v7 : Int) (M : er_Me), f_Mo_count_6_b self v0 v1 v2 v3 v4 v5 v6 v7 T M = some r → er_G K 0 0 T M 6 [(0, .inr v0), (1, .inl v1), (2, .inl v2), (3, .inl v3), (4, .inl v4), (5, .inl v5), (6, .inl v6), (7, .inl v7)] [] := by
  intro v0 v1 v2 v3 v4 v5 v6 v7 M h
  unfold f_Mo_count_6_b at h
  refine er_iload cx d_Mo_count_6 7 rfl ?_
  refine er_aload_n cx d_Mo_count_8 0 rfl ?_
  obtain ⟨c1, h⟩ := er_ck h
  refine er_geti cx d_Mo_count_9 fd_Mo_59 c1 ?_
  refine er_ic_ge (tgt := 69) cx d_Mo_count_12 (by decide) (fun b2 => ?_) (fun b2 => ?_)
  · have h := er_ift h b2
    refine er_iload cx d_Mo_count_69 6 rfl ?_
    obtain rfl := Option.some.inj h
    exact er_iret rt (Or.inl rfl) d_Mo_count_71 (by decide) (by decide) ⟨rfl, rfl, rfl⟩
  · have h := er_iff h b2
    refine er_aload_n cx d_Mo_count_15 0 rfl ?_
    obtain ⟨c4, h⟩ := er_ck h
    refine er_getr cx d_Mo_count_16 fd_Mo_41 c1 c4 ?_
    refine er_bipush (v := 126) cx d_Mo_count_19 (by decide +kernel) (by decide) ?_
    refine er_bipush (v := 7) cx d_Mo_count_21 (by decide +kernel) (by decide) ?_
    refine er_iload_n cx d_Mo_count_23 1 rfl ?_
    refine er_imul cx d_Mo_count_24 ?_
    refine er_iload cx d_Mo_count_25 7 rfl ?_
    refine er_iadd cx d_Mo_count_27 ?_
    refine er_imul cx d_Mo_count_28 ?_
    refine er_bipush (v := 63) cx d_Mo_count_29 (by decide +kernel) (by decide) ?_
    refine er_iload_n cx d_Mo_count_31 2 rfl ?_
    refine er_iconst (v := 1) cx d_Mo_count_32 rfl (by decide) ?_
    refine er_isub cx d_Mo_count_33 ?_
    refine er_imul cx d_Mo_count_34 ?_
    refine er_iadd cx d_Mo_count_35 ?_
    refine er_bipush (v := 7) cx d_Mo_count_36 (by decide +kernel) (by decide) ?_
    refine er_iload_n cx d_Mo_count_38 3 rfl ?_
    refine er_imul cx d_Mo_count_39 ?_
    refine er_iadd cx d_Mo_count_40 ?_
    refine er_iload cx d_Mo_count_41 4 rfl ?_
    refine er_iadd cx d_Mo_count_43 ?_
    obtain ⟨c5, h⟩ := er_ck h
    refine er_iald cx d_Mo_count_44 c5.1 c5.2.1 c5.2.2 ?_
    refine er_iload cx d_Mo_count_45 5 rfl ?_
    refine er_iconst (v := 1) cx d_Mo_count_47 rfl (by decide) ?_
    refine er_iadd cx d_Mo_count_48 ?_
    refine er_ic_ne (tgt := 59) cx d_Mo_count_49 (by decide) (fun b6 => ?_) (fun b6 => ?_)
    · have h := er_iff h b6
      refine er_iload cx d_Mo_count_59 6 rfl ?_
      refine er_istore cx d_Mo_count_61 (by decide) rfl ?_
      obtain ⟨x7, e7, h⟩ := er_lel h
      refine er_iinc cx d_Mo_count_63 (k := 7) rfl (by decide) e7 rfl ?_
      refine er_goto (tgt := 6) cx d_Mo_count_66 (by decide) ?_
      refine er_sb cx [2, 3, 4, 5, 6, 7, 1, 0] rfl ?_
      exact hself _ _ _ _ _ _ _ _ _ h
    · have h := er_ift h b6
      refine er_iload cx d_Mo_count_52 6 rfl ?_
      refine er_iconst (v := 1) cx d_Mo_count_54 rfl (by decide) ?_
      refine er_iadd cx d_Mo_count_55 ?_
      refine er_goto (tgt := 61) cx d_Mo_count_56 (by decide) ?_
      refine er_istore cx d_Mo_count_61 (by decide) rfl ?_
      obtain ⟨x8, e8, h⟩ := er_lel h
      refine er_iinc cx d_Mo_count_63 (k := 7) rfl (by decide) e8 rfl ?_
      refine er_goto (tgt := 6) cx d_Mo_count_66 (by decide) ?_
      refine er_sb cx [2, 3, 4, 5, 6, 7, 1, 0] rfl ?_
      exact hself _ _ _ _ _ _ _ _ _ h
theorem w_Mo_count_6 {K : er_K} {l : Launch} {X : er_X} (cx : er_Cx K l X b_Mo_count "EchoedRoundsModel" 8 rm_Mo_count) {r : Int × er_Me} {T : er_Me} (rt : er_Rt K X b_Mo_count (some .int) 0 0 (some (.inl r.1)) T r.2) : ∀ n : Nat, ∀ (v0 v1 v2 v3 v4 v5 v6 v7 : Int) (M : er_Me), f_Mo_count_6 n T v0 v1 v2 v3 v4 v5 v6 v7 M = some r → er_G K 0 0 T M 6 [(0, .inr v0), (1, .inl v1), (2, .inl v2), (3, .inl v3), (4, .inl v4), (5, .inl v5), (6, .inl v6), (7, .inl v7)] [] := by
  intro n
  induction n with
  | zero =>
    intro v0 v1 v2 v3 v4 v5 v6 v7 M h
    cases h
  | succ n ih =>
    intro v0 v1 v2 v3 v4 v5 v6 v7 M h
    exact w_Mo_count_6_b cx rt ih v0 v1 v2 v3 v4 v5 v6 v7 M h
def f_Mo_count (p0 p1 p2 p3 p4 p5 : Int) (T M : er_Me) : Option (Int × er_Me) :=
  f_Mo_count_6 er_fu T p0 p1 p2 p3 p4 p5 0 0 M
set_option maxHeartbeats 4000000 in
theorem w_Mo_count {K : er_K} {l : Launch} {X : er_X} (cx : er_Cx K l X b_Mo_count "EchoedRoundsModel" 8 rm_Mo_count) {r : Int × er_Me} {p0 p1 p2 p3 p4 p5 : Int} {T M : er_Me} (rt : er_Rt K X b_Mo_count (some .int) 0 0 (some (.inl r.1)) T r.2) (h : f_Mo_count p0 p1 p2 p3 p4 p5 T M = some r) : er_G K 0 0 T M 0 [(0, .inr p0), (1, .inl p1), (2, .inl p2), (3, .inl p3), (4, .inl p4), (5, .inl p5)] [] := by
  unfold f_Mo_count at h
  refine er_iconst (v := 0) cx d_Mo_count_0 rfl (by decide) ?_
  refine er_istore cx d_Mo_count_1 (by decide) rfl ?_
  refine er_iconst (v := 0) cx d_Mo_count_3 rfl (by decide) ?_
  refine er_istore cx d_Mo_count_4 (by decide) rfl ?_
  refine er_sb cx [2, 3, 4, 5, 6, 7, 1, 0] rfl ?_
  exact w_Mo_count_6 cx rt er_fu _ _ _ _ _ _ _ _ _ h
theorem c_Mo_count {l : Launch} {X : er_X} {r : Int × er_Me} {p0 p1 p2 p3 p4 p5 : Int} {T M : er_Me} (h : f_Mo_count p0 p1 p2 p3 p4 p5 T M = some r) (hok : ∀ v ∈ ([.inr p0, .inl p1, .inl p2, .inl p3, .inl p4, .inl p5] : List er_V), er_ok v) : er_Ct l X y_Mo_count b_Mo_count 8 (some .int) rm_Mo_count [.inr p0, .inl p1, .inl p2, .inl p3, .inl p4, .inl p5] T M (some (.inl r.1)) T r.2 :=
  er_ct rfl rfl (Nat.le_of_ble_eq_true rfl) hok (fun K cx rt hin => w_Mo_count cx rt h)
/-! Mo_firmValue -/
abbrev rm_Mo_firmValue : Room := { frames := 0, cells := 0, slots := 0, locals := 0 }
def f_Mo_firmValue (p0 p1 : Int) (T M : er_Me) : Option (Int × er_Me) :=
  if T p0 (-2) = 7 ∧ 0 < T p0 17 then
  if T (T p0 17) (-2) = 101 ∧ 2 < T (T p0 17) (-1) then
  if M (T p0 17) 2 < p1 then
  if 3 < T (T p0 17) (-1) then
  if M (T p0 17) 3 < p1 then
  some ((-1), M)
  else
  some (1, M) else none
  else
  some (0, M) else none else none
set_option maxHeartbeats 4000000 in
theorem w_Mo_firmValue {K : er_K} {l : Launch} {X : er_X} (cx : er_Cx K l X b_Mo_firmValue "EchoedRoundsModel" 2 rm_Mo_firmValue) {r : Int × er_Me} {p0 p1 : Int} {T M : er_Me} (rt : er_Rt K X b_Mo_firmValue (some .int) 0 0 (some (.inl r.1)) T r.2) (h : f_Mo_firmValue p0 p1 T M = some r) : er_G K 0 0 T M 0 [(0, .inr p0), (1, .inl p1)] [] := by
  unfold f_Mo_firmValue at h
  refine er_aload_n cx d_Mo_firmValue_0 0 rfl ?_
  obtain ⟨c1, h⟩ := er_ck h
  refine er_getr cx d_Mo_firmValue_1 fd_Mo_56 c1.1 c1.2 ?_
  refine er_iconst (v := 2) cx d_Mo_firmValue_4 rfl (by decide) ?_
  obtain ⟨c2, h⟩ := er_ck h
  refine er_iald cx d_Mo_firmValue_5 c2.1 (by decide) c2.2 ?_
  refine er_iload_n cx d_Mo_firmValue_6 1 rfl ?_
  refine er_ic_lt (tgt := 14) cx d_Mo_firmValue_7 (by decide) (fun b3 => ?_) (fun b3 => ?_)
  · have h := er_ift h b3
    refine er_aload_n cx d_Mo_firmValue_14 0 rfl ?_
    refine er_getr cx d_Mo_firmValue_15 fd_Mo_56 c1.1 c1.2 ?_
    refine er_iconst (v := 3) cx d_Mo_firmValue_18 rfl (by decide) ?_
    obtain ⟨c5, h⟩ := er_ck h
    refine er_iald cx d_Mo_firmValue_19 c2.1 (by decide) c5 ?_
    refine er_iload_n cx d_Mo_firmValue_20 1 rfl ?_
    refine er_ic_lt (tgt := 28) cx d_Mo_firmValue_21 (by decide) (fun b6 => ?_) (fun b6 => ?_)
    · have h := er_ift h b6
      refine er_iconst (v := -1) cx d_Mo_firmValue_28 rfl (by decide) ?_
      obtain rfl := Option.some.inj h
      exact er_iret rt (Or.inl rfl) d_Mo_firmValue_29 (by decide) (by decide) ⟨rfl, rfl, rfl⟩
    · have h := er_iff h b6
      refine er_iconst (v := 1) cx d_Mo_firmValue_24 rfl (by decide) ?_
      refine er_goto (tgt := 29) cx d_Mo_firmValue_25 (by decide) ?_
      obtain rfl := Option.some.inj h
      exact er_iret rt (Or.inl rfl) d_Mo_firmValue_29 (by decide) (by decide) ⟨rfl, rfl, rfl⟩
  · have h := er_iff h b3
    refine er_iconst (v := 0) cx d_Mo_firmValue_10 rfl (by decide) ?_
    refine er_goto (tgt := 29) cx d_Mo_firmValue_11 (by decide) ?_
    obtain rfl := Option.some.inj h
    exact er_iret rt (Or.inl rfl) d_Mo_firmValue_29 (by decide) (by decide) ⟨rfl, rfl, rfl⟩
theorem c_Mo_firmValue {l : Launch} {X : er_X} {r : Int × er_Me} {p0 p1 : Int} {T M : er_Me} (h : f_Mo_firmValue p0 p1 T M = some r) (hok : ∀ v ∈ ([.inr p0, .inl p1] : List er_V), er_ok v) : er_Ct l X y_Mo_firmValue b_Mo_firmValue 2 (some .int) rm_Mo_firmValue [.inr p0, .inl p1] T M (some (.inl r.1)) T r.2 :=
  er_ct rfl rfl (Nat.le_of_ble_eq_true rfl) hok (fun K cx rt hin => w_Mo_firmValue cx rt h)
/-! Mo_isSlot -/
abbrev rm_Mo_isSlot : Room := { frames := 0, cells := 0, slots := 0, locals := 0 }
def f_Mo_isSlot (p0 : Int) (T M : er_Me) : Option (Int × er_Me) :=
  if p0 < 0 then
  some (0, M)
  else
  if 8 < p0 then
  some (0, M)
  else
  some (1, M)
set_option maxHeartbeats 4000000 in
theorem w_Mo_isSlot {K : er_K} {l : Launch} {X : er_X} (cx : er_Cx K l X b_Mo_isSlot "EchoedRoundsModel" 1 rm_Mo_isSlot) {r : Int × er_Me} {p0 : Int} {T M : er_Me} (rt : er_Rt K X b_Mo_isSlot (some .boolean) 0 0 (some (.inl r.1)) T r.2) (h : f_Mo_isSlot p0 T M = some r) : er_G K 0 0 T M 0 [(0, .inl p0)] [] := by
  unfold f_Mo_isSlot at h
  refine er_iload_n cx d_Mo_isSlot_0 0 rfl ?_
  refine er_if_lt (tgt := 14) cx d_Mo_isSlot_1 (by decide) (fun b1 => ?_) (fun b1 => ?_)
  · have h := er_ift h b1
    refine er_iconst (v := 0) cx d_Mo_isSlot_14 rfl (by decide) ?_
    obtain rfl := Option.some.inj h
    exact er_iret rt (Or.inr ⟨rfl, Or.inl rfl⟩) d_Mo_isSlot_15 (by decide) (by decide) ⟨rfl, rfl, rfl⟩
  · have h := er_iff h b1
    refine er_iload_n cx d_Mo_isSlot_4 0 rfl ?_
    refine er_bipush (v := 8) cx d_Mo_isSlot_5 (by decide +kernel) (by decide) ?_
    refine er_ic_gt (tgt := 14) cx d_Mo_isSlot_7 (by decide) (fun b3 => ?_) (fun b3 => ?_)
    · have h := er_ift h b3
      refine er_iconst (v := 0) cx d_Mo_isSlot_14 rfl (by decide) ?_
      obtain rfl := Option.some.inj h
      exact er_iret rt (Or.inr ⟨rfl, Or.inl rfl⟩) d_Mo_isSlot_15 (by decide) (by decide) ⟨rfl, rfl, rfl⟩
    · have h := er_iff h b3
      refine er_iconst (v := 1) cx d_Mo_isSlot_10 rfl (by decide) ?_
      refine er_goto (tgt := 15) cx d_Mo_isSlot_11 (by decide) ?_
      obtain rfl := Option.some.inj h
      exact er_iret rt (Or.inr ⟨rfl, Or.inr rfl⟩) d_Mo_isSlot_15 (by decide) (by decide) ⟨rfl, rfl, rfl⟩
theorem c_Mo_isSlot {l : Launch} {X : er_X} {r : Int × er_Me} {p0 : Int} {T M : er_Me} (h : f_Mo_isSlot p0 T M = some r) (hok : ∀ v ∈ ([.inl p0] : List er_V), er_ok v) : er_Ct l X y_Mo_isSlot b_Mo_isSlot 1 (some .boolean) rm_Mo_isSlot [.inl p0] T M (some (.inl r.1)) T r.2 :=
  er_ct rfl rfl (Nat.le_of_ble_eq_true rfl) hok (fun K cx rt hin => w_Mo_isSlot cx rt h)
/-! Mo_well -/
abbrev rm_Mo_well : Room := { frames := 1, cells := 0, slots := 0, locals := 21 }
def f_Mo_well (p0 p1 : Int) (T M : er_Me) : Option (Int × er_Me) :=
  if T p0 (-2) = 7 then
  (f_Mo_isNode p0 p1 T M).bind fun q1 =>
  if q1.1 = 0 then
  some (0, q1.2)
  else
  if 0 < T p0 2 then
  if T (T p0 2) (-2) = 102 ∧ 0 ≤ p1 ∧ p1 < T (T p0 2) (-1) then
  if q1.2 (T p0 2) p1 = 0 then
  some (1, q1.2)
  else
  some (0, q1.2) else none else none else none
set_option maxHeartbeats 4000000 in
theorem w_Mo_well {K : er_K} {l : Launch} {X : er_X} (cx : er_Cx K l X b_Mo_well "EchoedRoundsModel" 2 rm_Mo_well) {r : Int × er_Me} {p0 p1 : Int} {T M : er_Me} (rt : er_Rt K X b_Mo_well (some .boolean) 0 0 (some (.inl r.1)) T r.2) (h : f_Mo_well p0 p1 T M = some r) : er_G K 0 0 T M 0 [(0, .inr p0), (1, .inl p1)] [] := by
  unfold f_Mo_well at h
  refine er_aload_n cx d_Mo_well_0 0 rfl ?_
  refine er_iload_n cx d_Mo_well_1 1 rfl ?_
  obtain ⟨c1, h⟩ := er_ck h
  obtain ⟨q1, e1, h⟩ := er_bd h
  refine er_callV (b := p0) (As := [.inl p1]) (st := []) cx (c_Mo_isNode e1) my_Mo_66 c1 ⟨by decide, by decide⟩ rfl (Nat.le_of_ble_eq_true rfl) d_Mo_well_2 ⟨Nat.zero_le _, Nat.zero_le _⟩ rfl ?_
  refine er_if_eq (tgt := 21) cx d_Mo_well_5 (by decide) (fun b2 => ?_) (fun b2 => ?_)
  · have h := er_ift h b2
    refine er_iconst (v := 0) cx d_Mo_well_21 rfl (by decide) ?_
    obtain rfl := Option.some.inj h
    exact er_iret rt (Or.inr ⟨rfl, Or.inl rfl⟩) d_Mo_well_22 (by decide) (by decide) ⟨rfl, rfl, rfl⟩
  · have h := er_iff h b2
    refine er_aload_n cx d_Mo_well_8 0 rfl ?_
    obtain ⟨c4, h⟩ := er_ck h
    refine er_getr cx d_Mo_well_9 fd_Mo_7 c1 c4 ?_
    refine er_iload_n cx d_Mo_well_12 1 rfl ?_
    obtain ⟨c5, h⟩ := er_ck h
    refine er_zald cx d_Mo_well_13 c5.1 c5.2.1 c5.2.2 ?_
    refine er_if_ne (tgt := 21) cx d_Mo_well_14 (by decide) (fun b6 => ?_) (fun b6 => ?_)
    · have h := er_iff h b6
      refine er_iconst (v := 0) cx d_Mo_well_21 rfl (by decide) ?_
      obtain rfl := Option.some.inj h
      exact er_iret rt (Or.inr ⟨rfl, Or.inl rfl⟩) d_Mo_well_22 (by decide) (by decide) ⟨rfl, rfl, rfl⟩
    · have h := er_ift h b6
      refine er_iconst (v := 1) cx d_Mo_well_17 rfl (by decide) ?_
      refine er_goto (tgt := 22) cx d_Mo_well_18 (by decide) ?_
      obtain rfl := Option.some.inj h
      exact er_iret rt (Or.inr ⟨rfl, Or.inr rfl⟩) d_Mo_well_22 (by decide) (by decide) ⟨rfl, rfl, rfl⟩
theorem c_Mo_well {l : Launch} {X : er_X} {r : Int × er_Me} {p0 p1 : Int} {T M : er_Me} (h : f_Mo_well p0 p1 T M = some r) (hok : ∀ v ∈ ([.inr p0, .inl p1] : List er_V), er_ok v) : er_Ct l X y_Mo_well b_Mo_well 2 (some .boolean) rm_Mo_well [.inr p0, .inl p1] T M (some (.inl r.1)) T r.2 :=
  er_ct rfl rfl (Nat.le_of_ble_eq_true rfl) hok (fun K cx rt hin => w_Mo_well cx rt h)
/-! Mo_send -/
abbrev rm_Mo_send : Room := { frames := 1, cells := 0, slots := 0, locals := 22 }
def f_Mo_send (p0 p1 p2 p3 p4 p5 : Int) (T M : er_Me) : Option (er_Me) :=
  if T p0 (-2) = 7 ∧ 0 < T p0 3 then
  if 0 < T p0 4 then
  if T (T p0 4) (-2) = 101 ∧ 0 ≤ p1 ∧ p1 < T (T p0 4) (-1) then
  if T (T p0 3) (-2) = 101 ∧ 0 ≤ er_add (er_mul 140 p1) (M (T p0 4) p1) ∧ er_add (er_mul 140 p1) (M (T p0 4) p1) < T (T p0 3) (-1) then
  er_le (er_up M (T p0 3) (er_add (er_mul 140 p1) (M (T p0 4) p1)) (er_add (er_add (er_add (er_mul 1000 p3) (er_mul 100 p4)) (er_mul 10 p2)) p5)) fun M4 =>
  er_le (er_up M4 (T p0 4) p1 (er_add (M4 (T p0 4) p1) 1)) fun M8 =>
  if p2 = 2 then
  if 0 < T p0 7 then
  (f_Mo_at p1 p3 p4 T M8).bind fun q11 =>
  if T (T p0 7) (-2) = 102 ∧ 0 ≤ q11.1 ∧ q11.1 < T (T p0 7) (-1) then
  er_le (er_up q11.2 (T p0 7) q11.1 1) fun M12 =>
  some M12 else none else none
  else
  some M8 else none else none else none else none
set_option maxHeartbeats 4000000 in
theorem w_Mo_send {K : er_K} {l : Launch} {X : er_X} (cx : er_Cx K l X b_Mo_send "EchoedRoundsModel" 6 rm_Mo_send) {r : er_Me} {p0 p1 p2 p3 p4 p5 : Int} {T M : er_Me} (rt : er_Rt K X b_Mo_send (none) 0 0 none T r) (h : f_Mo_send p0 p1 p2 p3 p4 p5 T M = some r) : er_G K 0 0 T M 0 [(0, .inr p0), (1, .inl p1), (2, .inl p2), (3, .inl p3), (4, .inl p4), (5, .inl p5)] [] := by
  unfold f_Mo_send at h
  refine er_aload_n cx d_Mo_send_0 0 rfl ?_
  obtain ⟨c1, h⟩ := er_ck h
  refine er_getr cx d_Mo_send_1 fd_Mo_13 c1.1 c1.2 ?_
  refine er_sipush (v := 140) cx d_Mo_send_4 (by decide +kernel) (by decide) ?_
  refine er_iload_n cx d_Mo_send_7 1 rfl ?_
  refine er_imul cx d_Mo_send_8 ?_
  refine er_aload_n cx d_Mo_send_9 0 rfl ?_
  obtain ⟨c2, h⟩ := er_ck h
  refine er_getr cx d_Mo_send_10 fd_Mo_17 c1.1 c2 ?_
  refine er_iload_n cx d_Mo_send_13 1 rfl ?_
  obtain ⟨c3, h⟩ := er_ck h
  refine er_iald cx d_Mo_send_14 c3.1 c3.2.1 c3.2.2 ?_
  refine er_iadd cx d_Mo_send_15 ?_
  refine er_sipush (v := 1000) cx d_Mo_send_16 (by decide +kernel) (by decide) ?_
  refine er_iload_n cx d_Mo_send_19 3 rfl ?_
  refine er_imul cx d_Mo_send_20 ?_
  refine er_bipush (v := 100) cx d_Mo_send_21 (by decide +kernel) (by decide) ?_
  refine er_iload cx d_Mo_send_23 4 rfl ?_
  refine er_imul cx d_Mo_send_25 ?_
  refine er_iadd cx d_Mo_send_26 ?_
  refine er_bipush (v := 10) cx d_Mo_send_27 (by decide +kernel) (by decide) ?_
  refine er_iload_n cx d_Mo_send_29 2 rfl ?_
  refine er_imul cx d_Mo_send_30 ?_
  refine er_iadd cx d_Mo_send_31 ?_
  refine er_iload cx d_Mo_send_32 5 rfl ?_
  refine er_iadd cx d_Mo_send_34 ?_
  obtain ⟨c4, h⟩ := er_ck h
  obtain ⟨M4, e4, h⟩ := er_lel h
  refine er_iast cx d_Mo_send_35 c4.1 c4.2.1 c4.2.2 e4 ?_
  refine er_aload_n cx d_Mo_send_36 0 rfl ?_
  refine er_getr cx d_Mo_send_37 fd_Mo_17 c1.1 c2 ?_
  refine er_iload_n cx d_Mo_send_40 1 rfl ?_
  refine er_aload_n cx d_Mo_send_41 0 rfl ?_
  refine er_getr cx d_Mo_send_42 fd_Mo_17 c1.1 c2 ?_
  refine er_iload_n cx d_Mo_send_45 1 rfl ?_
  refine er_iald cx d_Mo_send_46 c3.1 c3.2.1 c3.2.2 ?_
  refine er_iconst (v := 1) cx d_Mo_send_47 rfl (by decide) ?_
  refine er_iadd cx d_Mo_send_48 ?_
  obtain ⟨M8, e8, h⟩ := er_lel h
  refine er_iast cx d_Mo_send_49 c3.1 c3.2.1 c3.2.2 e8 ?_
  refine er_iload_n cx d_Mo_send_50 2 rfl ?_
  refine er_iconst (v := 2) cx d_Mo_send_51 rfl (by decide) ?_
  refine er_ic_ne (tgt := 68) cx d_Mo_send_52 (by decide) (fun b9 => ?_) (fun b9 => ?_)
  · have h := er_iff h b9
    obtain rfl := Option.some.inj h
    exact er_vret rt d_Mo_send_68 (by decide) (by decide) ⟨rfl, rfl, rfl⟩
  · have h := er_ift h b9
    refine er_aload_n cx d_Mo_send_55 0 rfl ?_
    obtain ⟨c10, h⟩ := er_ck h
    refine er_getr cx d_Mo_send_56 fd_Mo_26 c1.1 c10 ?_
    refine er_iload_n cx d_Mo_send_59 1 rfl ?_
    refine er_iload_n cx d_Mo_send_60 3 rfl ?_
    refine er_iload cx d_Mo_send_61 4 rfl ?_
    obtain ⟨q11, e11, h⟩ := er_bd h
    refine er_callS (As := [.inl p1, .inl p3, .inl p4]) (st := [.inr (T p0 7)]) cx (c_Mo_at e11) my_Mo_70 ⟨by decide, by decide⟩ rfl (Nat.le_of_ble_eq_true rfl) d_Mo_send_63 ⟨Nat.zero_le _, Nat.zero_le _⟩ rfl ?_
    refine er_iconst (v := 1) cx d_Mo_send_66 rfl (by decide) ?_
    obtain ⟨c12, h⟩ := er_ck h
    obtain ⟨M12, e12, h⟩ := er_lel h
    refine er_zast cx d_Mo_send_67 c12.1 c12.2.1 c12.2.2 (Or.inr rfl) e12 ?_
    obtain rfl := Option.some.inj h
    exact er_vret rt d_Mo_send_68 (by decide) (by decide) ⟨rfl, rfl, rfl⟩
theorem c_Mo_send {l : Launch} {X : er_X} {r : er_Me} {p0 p1 p2 p3 p4 p5 : Int} {T M : er_Me} (h : f_Mo_send p0 p1 p2 p3 p4 p5 T M = some r) (hok : ∀ v ∈ ([.inr p0, .inl p1, .inl p2, .inl p3, .inl p4, .inl p5] : List er_V), er_ok v) : er_Ct l X y_Mo_send b_Mo_send 6 (none) rm_Mo_send [.inr p0, .inl p1, .inl p2, .inl p3, .inl p4, .inl p5] T M none T r :=
  er_ct rfl rfl (Nat.le_of_ble_eq_true rfl) hok (fun K cx rt hin => w_Mo_send cx rt h)
/-! Mo_setDoes -/
abbrev rm_Mo_setDoes : Room := { frames := 1, cells := 0, slots := 0, locals := 22 }
def f_Mo_setDoes_29_b (self : Int → Int → Int → Int → Int → Int → Int → er_Me → Option (Int × er_Me)) (v0 v1 v2 v3 v4 v5 v6 : Int) (T M : er_Me) : Option (Int × er_Me) :=
  if T v0 (-2) = 7 ∧ 0 < T v0 11 then
  if T (T v0 11) (-2) = 101 ∧ 0 ≤ er_add (er_mul 9 v1) v2 ∧ er_add (er_mul 9 v1) v2 < T (T v0 11) (-1) then
  if M (T v0 11) (er_add (er_mul 9 v1) v2) ≤ v6 then
  if v5 = er_sub (M v0 0) (M v0 1) then
  er_le (er_rem (er_add v2 1) 3) fun x7 =>
  if x7 = 1 then
  if 0 < T v0 17 then
  if T (T v0 17) (-2) = 101 ∧ 0 ≤ v4 ∧ v4 < T (T v0 17) (-1) then
  if v5 < er_mul 2 (M (T v0 17) v4) then
  some (1, M)
  else
  if v4 = 0 then
  if 0 < T (T v0 17) (-1) then
  if er_mul 2 (M (T v0 17) 0) = v5 then
  some (1, M)
  else
  some (0, M) else none
  else
  some (0, M) else none else none
  else
  if x7 = 2 then
  if v4 ≤ 1 then
  if 0 < T v0 17 then
  if T (T v0 17) (-2) = 101 ∧ 0 < T (T v0 17) (-1) then
  if M v0 0 < er_mul 2 (M (T v0 17) 0) then
  some (0, M)
  else
  if 1 < T (T v0 17) (-1) then
  if M v0 0 < er_mul 2 (M (T v0 17) 1) then
  some (0, M)
  else
  some (1, M) else none else none else none
  else
  if 0 < T v0 17 then
  if T (T v0 17) (-2) = 101 ∧ 0 ≤ er_sub v4 2 ∧ er_sub v4 2 < T (T v0 17) (-1) then
  if er_mul 2 (M (T v0 17) (er_sub v4 2)) ≤ M v0 0 then
  some (0, M)
  else
  some (1, M) else none else none
  else
  if 0 < T v0 17 then
  if T (T v0 17) (-2) = 101 ∧ 0 ≤ er_add v4 2 ∧ er_add v4 2 < T (T v0 17) (-1) then
  if M v0 1 < M (T v0 17) (er_add v4 2) then
  some (1, M)
  else
  if 2 < T (T v0 17) (-1) then
  if M v0 1 < M (T v0 17) 2 then
  some (0, M)
  else
  if 3 < T (T v0 17) (-1) then
  if M v0 1 < M (T v0 17) 3 then
  some (0, M)
  else
  some (1, M) else none else none else none else none
  else
  some (0, M)
  else
  if er_and (er_shr v3 v6) 1 = 1 then
  if 0 < T v0 8 then
  if 0 < T v0 10 then
  (f_Mo_at v1 v2 v6 T M).bind fun q60 =>
  if T (T v0 10) (-2) = 101 ∧ 0 ≤ q60.1 ∧ q60.1 < T (T v0 10) (-1) then
  (f_Mo_at v1 v2 (q60.2 (T v0 10) q60.1) T q60.2).bind fun q62 =>
  if T (T v0 8) (-2) = 101 ∧ 0 ≤ q62.1 ∧ q62.1 < T (T v0 8) (-1) then
  er_le (er_sub (q62.2 (T v0 8) q62.1) 1) fun x64 =>
  if 0 < T v0 17 then
  if T (T v0 17) (-2) = 101 ∧ 0 ≤ x64 ∧ x64 < T (T v0 17) (-1) then
  er_le (er_up q62.2 (T v0 17) x64 (er_add (q62.2 (T v0 17) x64) 1)) fun M68 =>
  er_le (er_add v6 1) fun x69 =>
  self v0 v1 v2 v3 v4 (er_add v5 1) x69 M68 else none else none else none else none else none else none
  else
  er_le (er_add v6 1) fun x57 =>
  self v0 v1 v2 v3 v4 v5 x57 M else none else none
def f_Mo_setDoes_29 : Nat → er_Me → Int → Int → Int → Int → Int → Int → Int → er_Me → Option (Int × er_Me)
  | 0, _ => fun _ _ _ _ _ _ _ _ => none
  | n + 1, T => fun v0 v1 v2 v3 v4 v5 v6 M => f_Mo_setDoes_29_b (f_Mo_setDoes_29 n T) v0 v1 v2 v3 v4 v5 v6 T M
set_option maxHeartbeats 4000000 in
theorem w_Mo_setDoes_29_b {K : er_K} {l : Launch} {X : er_X} (cx : er_Cx K l X b_Mo_setDoes "EchoedRoundsModel" 8 rm_Mo_setDoes) {r : Int × er_Me} {T : er_Me} (rt : er_Rt K X b_Mo_setDoes (some .boolean) 0 0 (some (.inl r.1)) T r.2) {self : Int → Int → Int → Int → Int → Int → Int → er_Me → Option (Int × er_Me)} (hself : ∀ (v0 v1 v2 v3 v4 v5 v6 : Int) (M : er_Me), self v0 v1 v2 v3 v4 v5 v6 M = some r → er_G K 0 0 T M 29 [(0, .inr v0), (1, .inl v1), (2, .inl v2), (3, .inl v3), (4, .inl v4), (5, .inl v5), (6, .inl v6)] []) : ∀ (v0 v1 v2 v3 v4 v5 v6 : Int) (M : er_Me), f_Mo_setDoes_29_b self v0 v1 v2 v3 v4 v5 v6 T M = some r → er_G K 0 0 T M 29 [(0, .inr v0), (1, .inl v1), (2, .inl v2), (3, .inl v3), (4, .inl v4), (5, .inl v5), (6, .inl v6)] [] := by
  intro v0 v1 v2 v3 v4 v5 v6 M h
  unfold f_Mo_setDoes_29_b at h
  refine er_iload cx d_Mo_setDoes_29 6 rfl ?_
  refine er_aload_n cx d_Mo_setDoes_31 0 rfl ?_
  obtain ⟨c1, h⟩ := er_ck h
  refine er_getr cx d_Mo_setDoes_32 fd_Mo_38 c1.1 c1.2 ?_
  refine er_bipush (v := 9) cx d_Mo_setDoes_35 (by decide +kernel) (by decide) ?_
  refine er_iload_n cx d_Mo_setDoes_37 1 rfl ?_
  refine er_imul cx d_Mo_setDoes_38 ?_
  refine er_iload_n cx d_Mo_setDoes_39 2 rfl ?_
  refine er_iadd cx d_Mo_setDoes_40 ?_
  obtain ⟨c2, h⟩ := er_ck h
  refine er_iald cx d_Mo_setDoes_41 c2.1 c2.2.1 c2.2.2 ?_
  refine er_ic_ge (tgt := 109) cx d_Mo_setDoes_42 (by decide) (fun b3 => ?_) (fun b3 => ?_)
  · have h := er_ift h b3
    refine er_iload cx d_Mo_setDoes_109 5 rfl ?_
    refine er_aload_n cx d_Mo_setDoes_111 0 rfl ?_
    refine er_geti cx d_Mo_setDoes_112 fd_Mo_59 c1.1 ?_
    refine er_aload_n cx d_Mo_setDoes_115 0 rfl ?_
    refine er_geti cx d_Mo_setDoes_116 fd_Mo_63 c1.1 ?_
    refine er_isub cx d_Mo_setDoes_119 ?_
    refine er_ic_eq (tgt := 125) cx d_Mo_setDoes_120 (by decide) (fun b6 => ?_) (fun b6 => ?_)
    · have h := er_ift h b6
      refine er_iload_n cx d_Mo_setDoes_125 2 rfl ?_
      refine er_iconst (v := 1) cx d_Mo_setDoes_126 rfl (by decide) ?_
      refine er_iadd cx d_Mo_setDoes_127 ?_
      refine er_iconst (v := 3) cx d_Mo_setDoes_128 rfl (by decide) ?_
      refine er_irem cx d_Mo_setDoes_129 (by decide) ?_
      obtain ⟨x7, e7, h⟩ := er_lel h
      refine er_nm e7 ?_
      refine er_istore cx d_Mo_setDoes_130 (by decide) rfl ?_
      refine er_iload cx d_Mo_setDoes_132 0 rfl ?_
      refine er_iconst (v := 1) cx d_Mo_setDoes_134 rfl (by decide) ?_
      refine er_ic_ne (tgt := 176) cx d_Mo_setDoes_135 (by decide) (fun b8 => ?_) (fun b8 => ?_)
      · have h := er_iff h b8
        refine er_iload cx d_Mo_setDoes_176 0 rfl ?_
        refine er_iconst (v := 2) cx d_Mo_setDoes_178 rfl (by decide) ?_
        refine er_ic_ne (tgt := 250) cx d_Mo_setDoes_179 (by decide) (fun b9 => ?_) (fun b9 => ?_)
        · have h := er_iff h b9
          refine er_aload_n cx d_Mo_setDoes_250 1 rfl ?_
          obtain ⟨c10, h⟩ := er_ck h
          refine er_getr cx d_Mo_setDoes_251 fd_Mo_56 c1.1 c10 ?_
          refine er_iload cx d_Mo_setDoes_254 5 rfl ?_
          refine er_iconst (v := 2) cx d_Mo_setDoes_256 rfl (by decide) ?_
          refine er_iadd cx d_Mo_setDoes_257 ?_
          obtain ⟨c11, h⟩ := er_ck h
          refine er_iald cx d_Mo_setDoes_258 c11.1 c11.2.1 c11.2.2 ?_
          refine er_aload_n cx d_Mo_setDoes_259 1 rfl ?_
          refine er_geti cx d_Mo_setDoes_260 fd_Mo_63 c1.1 ?_
          refine er_ic_gt (tgt := 292) cx d_Mo_setDoes_263 (by decide) (fun b13 => ?_) (fun b13 => ?_)
          · have h := er_ift h b13
            refine er_iconst (v := 1) cx d_Mo_setDoes_292 rfl (by decide) ?_
            refine er_goto (tgt := 297) cx d_Mo_setDoes_293 (by decide) ?_
            obtain rfl := Option.some.inj h
            exact er_iret rt (Or.inr ⟨rfl, Or.inr rfl⟩) d_Mo_setDoes_297 (by decide) (by decide) ⟨rfl, rfl, rfl⟩
          · have h := er_iff h b13
            refine er_aload_n cx d_Mo_setDoes_266 1 rfl ?_
            refine er_getr cx d_Mo_setDoes_267 fd_Mo_56 c1.1 c10 ?_
            refine er_iconst (v := 2) cx d_Mo_setDoes_270 rfl (by decide) ?_
            obtain ⟨c16, h⟩ := er_ck h
            refine er_iald cx d_Mo_setDoes_271 c11.1 (by decide) c16 ?_
            refine er_aload_n cx d_Mo_setDoes_272 1 rfl ?_
            refine er_geti cx d_Mo_setDoes_273 fd_Mo_63 c1.1 ?_
            refine er_ic_gt (tgt := 296) cx d_Mo_setDoes_276 (by decide) (fun b18 => ?_) (fun b18 => ?_)
            · have h := er_ift h b18
              refine er_iconst (v := 0) cx d_Mo_setDoes_296 rfl (by decide) ?_
              obtain rfl := Option.some.inj h
              exact er_iret rt (Or.inr ⟨rfl, Or.inl rfl⟩) d_Mo_setDoes_297 (by decide) (by decide) ⟨rfl, rfl, rfl⟩
            · have h := er_iff h b18
              refine er_aload_n cx d_Mo_setDoes_279 1 rfl ?_
              refine er_getr cx d_Mo_setDoes_280 fd_Mo_56 c1.1 c10 ?_
              refine er_iconst (v := 3) cx d_Mo_setDoes_283 rfl (by decide) ?_
              obtain ⟨c21, h⟩ := er_ck h
              refine er_iald cx d_Mo_setDoes_284 c11.1 (by decide) c21 ?_
              refine er_aload_n cx d_Mo_setDoes_285 1 rfl ?_
              refine er_geti cx d_Mo_setDoes_286 fd_Mo_63 c1.1 ?_
              refine er_ic_gt (tgt := 296) cx d_Mo_setDoes_289 (by decide) (fun b23 => ?_) (fun b23 => ?_)
              · have h := er_ift h b23
                refine er_iconst (v := 0) cx d_Mo_setDoes_296 rfl (by decide) ?_
                obtain rfl := Option.some.inj h
                exact er_iret rt (Or.inr ⟨rfl, Or.inl rfl⟩) d_Mo_setDoes_297 (by decide) (by decide) ⟨rfl, rfl, rfl⟩
              · have h := er_iff h b23
                refine er_iconst (v := 1) cx d_Mo_setDoes_292 rfl (by decide) ?_
                refine er_goto (tgt := 297) cx d_Mo_setDoes_293 (by decide) ?_
                obtain rfl := Option.some.inj h
                exact er_iret rt (Or.inr ⟨rfl, Or.inr rfl⟩) d_Mo_setDoes_297 (by decide) (by decide) ⟨rfl, rfl, rfl⟩
        · have h := er_ift h b9
          refine er_iload cx d_Mo_setDoes_182 5 rfl ?_
          refine er_iconst (v := 1) cx d_Mo_setDoes_184 rfl (by decide) ?_
          refine er_ic_le (tgt := 214) cx d_Mo_setDoes_185 (by decide) (fun b26 => ?_) (fun b26 => ?_)
          · have h := er_ift h b26
            refine er_iconst (v := 2) cx d_Mo_setDoes_214 rfl (by decide) ?_
            refine er_aload_n cx d_Mo_setDoes_215 1 rfl ?_
            obtain ⟨c27, h⟩ := er_ck h
            refine er_getr cx d_Mo_setDoes_216 fd_Mo_56 c1.1 c27 ?_
            refine er_iconst (v := 0) cx d_Mo_setDoes_219 rfl (by decide) ?_
            obtain ⟨c28, h⟩ := er_ck h
            refine er_iald cx d_Mo_setDoes_220 c28.1 (by decide) c28.2 ?_
            refine er_imul cx d_Mo_setDoes_221 ?_
            refine er_aload_n cx d_Mo_setDoes_222 1 rfl ?_
            refine er_geti cx d_Mo_setDoes_223 fd_Mo_59 c1.1 ?_
            refine er_ic_gt (tgt := 248) cx d_Mo_setDoes_226 (by decide) (fun b30 => ?_) (fun b30 => ?_)
            · have h := er_ift h b30
              refine er_iconst (v := 0) cx d_Mo_setDoes_248 rfl (by decide) ?_
              obtain rfl := Option.some.inj h
              exact er_iret rt (Or.inr ⟨rfl, Or.inl rfl⟩) d_Mo_setDoes_249 (by decide) (by decide) ⟨rfl, rfl, rfl⟩
            · have h := er_iff h b30
              refine er_iconst (v := 2) cx d_Mo_setDoes_229 rfl (by decide) ?_
              refine er_aload_n cx d_Mo_setDoes_230 1 rfl ?_
              refine er_getr cx d_Mo_setDoes_231 fd_Mo_56 c1.1 c27 ?_
              refine er_iconst (v := 1) cx d_Mo_setDoes_234 rfl (by decide) ?_
              obtain ⟨c33, h⟩ := er_ck h
              refine er_iald cx d_Mo_setDoes_235 c28.1 (by decide) c33 ?_
              refine er_imul cx d_Mo_setDoes_236 ?_
              refine er_aload_n cx d_Mo_setDoes_237 1 rfl ?_
              refine er_geti cx d_Mo_setDoes_238 fd_Mo_59 c1.1 ?_
              refine er_ic_gt (tgt := 248) cx d_Mo_setDoes_241 (by decide) (fun b35 => ?_) (fun b35 => ?_)
              · have h := er_ift h b35
                refine er_iconst (v := 0) cx d_Mo_setDoes_248 rfl (by decide) ?_
                obtain rfl := Option.some.inj h
                exact er_iret rt (Or.inr ⟨rfl, Or.inl rfl⟩) d_Mo_setDoes_249 (by decide) (by decide) ⟨rfl, rfl, rfl⟩
              · have h := er_iff h b35
                refine er_iconst (v := 1) cx d_Mo_setDoes_244 rfl (by decide) ?_
                refine er_goto (tgt := 249) cx d_Mo_setDoes_245 (by decide) ?_
                obtain rfl := Option.some.inj h
                exact er_iret rt (Or.inr ⟨rfl, Or.inr rfl⟩) d_Mo_setDoes_249 (by decide) (by decide) ⟨rfl, rfl, rfl⟩
          · have h := er_iff h b26
            refine er_iconst (v := 2) cx d_Mo_setDoes_188 rfl (by decide) ?_
            refine er_aload_n cx d_Mo_setDoes_189 1 rfl ?_
            obtain ⟨c38, h⟩ := er_ck h
            refine er_getr cx d_Mo_setDoes_190 fd_Mo_56 c1.1 c38 ?_
            refine er_iload cx d_Mo_setDoes_193 5 rfl ?_
            refine er_iconst (v := 2) cx d_Mo_setDoes_195 rfl (by decide) ?_
            refine er_isub cx d_Mo_setDoes_196 ?_
            obtain ⟨c39, h⟩ := er_ck h
            refine er_iald cx d_Mo_setDoes_197 c39.1 c39.2.1 c39.2.2 ?_
            refine er_imul cx d_Mo_setDoes_198 ?_
            refine er_aload_n cx d_Mo_setDoes_199 1 rfl ?_
            refine er_geti cx d_Mo_setDoes_200 fd_Mo_59 c1.1 ?_
            refine er_ic_le (tgt := 210) cx d_Mo_setDoes_203 (by decide) (fun b41 => ?_) (fun b41 => ?_)
            · have h := er_ift h b41
              refine er_iconst (v := 0) cx d_Mo_setDoes_210 rfl (by decide) ?_
              refine er_goto (tgt := 249) cx d_Mo_setDoes_211 (by decide) ?_
              obtain rfl := Option.some.inj h
              exact er_iret rt (Or.inr ⟨rfl, Or.inl rfl⟩) d_Mo_setDoes_249 (by decide) (by decide) ⟨rfl, rfl, rfl⟩
            · have h := er_iff h b41
              refine er_iconst (v := 1) cx d_Mo_setDoes_206 rfl (by decide) ?_
              refine er_goto (tgt := 249) cx d_Mo_setDoes_207 (by decide) ?_
              obtain rfl := Option.some.inj h
              exact er_iret rt (Or.inr ⟨rfl, Or.inr rfl⟩) d_Mo_setDoes_249 (by decide) (by decide) ⟨rfl, rfl, rfl⟩
      · have h := er_ift h b8
        refine er_iconst (v := 2) cx d_Mo_setDoes_138 rfl (by decide) ?_
        refine er_aload_n cx d_Mo_setDoes_139 1 rfl ?_
        obtain ⟨c44, h⟩ := er_ck h
        refine er_getr cx d_Mo_setDoes_140 fd_Mo_56 c1.1 c44 ?_
        refine er_iload cx d_Mo_setDoes_143 5 rfl ?_
        obtain ⟨c45, h⟩ := er_ck h
        refine er_iald cx d_Mo_setDoes_145 c45.1 c45.2.1 c45.2.2 ?_
        refine er_imul cx d_Mo_setDoes_146 ?_
        refine er_iload cx d_Mo_setDoes_147 6 rfl ?_
        refine er_ic_gt (tgt := 170) cx d_Mo_setDoes_149 (by decide) (fun b46 => ?_) (fun b46 => ?_)
        · have h := er_ift h b46
          refine er_iconst (v := 1) cx d_Mo_setDoes_170 rfl (by decide) ?_
          refine er_goto (tgt := 175) cx d_Mo_setDoes_171 (by decide) ?_
          obtain rfl := Option.some.inj h
          exact er_iret rt (Or.inr ⟨rfl, Or.inr rfl⟩) d_Mo_setDoes_175 (by decide) (by decide) ⟨rfl, rfl, rfl⟩
        · have h := er_iff h b46
          refine er_iload cx d_Mo_setDoes_152 5 rfl ?_
          refine er_if_ne (tgt := 174) cx d_Mo_setDoes_154 (by decide) (fun b48 => ?_) (fun b48 => ?_)
          · have h := er_iff h b48
            refine er_iconst (v := 0) cx d_Mo_setDoes_174 rfl (by decide) ?_
            obtain rfl := Option.some.inj h
            exact er_iret rt (Or.inr ⟨rfl, Or.inl rfl⟩) d_Mo_setDoes_175 (by decide) (by decide) ⟨rfl, rfl, rfl⟩
          · have h := er_ift h b48
            refine er_iconst (v := 2) cx d_Mo_setDoes_157 rfl (by decide) ?_
            refine er_aload_n cx d_Mo_setDoes_158 1 rfl ?_
            refine er_getr cx d_Mo_setDoes_159 fd_Mo_56 c1.1 c44 ?_
            refine er_iconst (v := 0) cx d_Mo_setDoes_162 rfl (by decide) ?_
            obtain ⟨c51, h⟩ := er_ck h
            refine er_iald cx d_Mo_setDoes_163 c45.1 (by decide) c51 ?_
            refine er_imul cx d_Mo_setDoes_164 ?_
            refine er_iload cx d_Mo_setDoes_165 6 rfl ?_
            refine er_ic_ne (tgt := 174) cx d_Mo_setDoes_167 (by decide) (fun b52 => ?_) (fun b52 => ?_)
            · have h := er_iff h b52
              refine er_iconst (v := 0) cx d_Mo_setDoes_174 rfl (by decide) ?_
              obtain rfl := Option.some.inj h
              exact er_iret rt (Or.inr ⟨rfl, Or.inl rfl⟩) d_Mo_setDoes_175 (by decide) (by decide) ⟨rfl, rfl, rfl⟩
            · have h := er_ift h b52
              refine er_iconst (v := 1) cx d_Mo_setDoes_170 rfl (by decide) ?_
              refine er_goto (tgt := 175) cx d_Mo_setDoes_171 (by decide) ?_
              obtain rfl := Option.some.inj h
              exact er_iret rt (Or.inr ⟨rfl, Or.inr rfl⟩) d_Mo_setDoes_175 (by decide) (by decide) ⟨rfl, rfl, rfl⟩
    · have h := er_iff h b6
      refine er_iconst (v := 0) cx d_Mo_setDoes_123 rfl (by decide) ?_
      obtain rfl := Option.some.inj h
      exact er_iret rt (Or.inr ⟨rfl, Or.inl rfl⟩) d_Mo_setDoes_124 (by decide) (by decide) ⟨rfl, rfl, rfl⟩
  · have h := er_iff h b3
    refine er_iload_n cx d_Mo_setDoes_45 3 rfl ?_
    refine er_iload cx d_Mo_setDoes_46 6 rfl ?_
    refine er_ishr cx d_Mo_setDoes_48 ?_
    refine er_iconst (v := 1) cx d_Mo_setDoes_49 rfl (by decide) ?_
    refine er_iand cx d_Mo_setDoes_50 ?_
    refine er_iconst (v := 1) cx d_Mo_setDoes_51 rfl (by decide) ?_
    refine er_ic_ne (tgt := 103) cx d_Mo_setDoes_52 (by decide) (fun b56 => ?_) (fun b56 => ?_)
    · have h := er_iff h b56
      obtain ⟨x57, e57, h⟩ := er_lel h
      refine er_iinc cx d_Mo_setDoes_103 (k := 6) rfl (by decide) e57 rfl ?_
      refine er_goto (tgt := 29) cx d_Mo_setDoes_106 (by decide) ?_
      refine er_sb cx [1, 2, 3, 4, 5, 6, 0] rfl ?_
      exact hself _ _ _ _ _ _ _ _ h
    · have h := er_ift h b56
      refine er_aload_n cx d_Mo_setDoes_55 0 rfl ?_
      obtain ⟨c58, h⟩ := er_ck h
      refine er_getr cx d_Mo_setDoes_56 fd_Mo_29 c1.1 c58 ?_
      refine er_iload_n cx d_Mo_setDoes_59 1 rfl ?_
      refine er_iload_n cx d_Mo_setDoes_60 2 rfl ?_
      refine er_aload_n cx d_Mo_setDoes_61 0 rfl ?_
      obtain ⟨c59, h⟩ := er_ck h
      refine er_getr cx d_Mo_setDoes_62 fd_Mo_35 c1.1 c59 ?_
      refine er_iload_n cx d_Mo_setDoes_65 1 rfl ?_
      refine er_iload_n cx d_Mo_setDoes_66 2 rfl ?_
      refine er_iload cx d_Mo_setDoes_67 6 rfl ?_
      obtain ⟨q60, e60, h⟩ := er_bd h
      refine er_callS (As := [.inl v1, .inl v2, .inl v6]) (st := [.inr (T v0 10), .inl v2, .inl v1, .inr (T v0 8)]) cx (c_Mo_at e60) my_Mo_70 ⟨by decide, by decide⟩ rfl (Nat.le_of_ble_eq_true rfl) d_Mo_setDoes_69 ⟨Nat.zero_le _, Nat.zero_le _⟩ rfl ?_
      obtain ⟨c61, h⟩ := er_ck h
      refine er_iald cx d_Mo_setDoes_72 c61.1 c61.2.1 c61.2.2 ?_
      obtain ⟨q62, e62, h⟩ := er_bd h
      refine er_callS (As := [.inl v1, .inl v2, .inl (q60.2 (T v0 10) q60.1)]) (st := [.inr (T v0 8)]) cx (c_Mo_at e62) my_Mo_70 ⟨by decide, by decide⟩ rfl (Nat.le_of_ble_eq_true rfl) d_Mo_setDoes_73 ⟨Nat.zero_le _, Nat.zero_le _⟩ rfl ?_
      obtain ⟨c63, h⟩ := er_ck h
      refine er_iald cx d_Mo_setDoes_76 c63.1 c63.2.1 c63.2.2 ?_
      refine er_iconst (v := 1) cx d_Mo_setDoes_77 rfl (by decide) ?_
      refine er_isub cx d_Mo_setDoes_78 ?_
      obtain ⟨x64, e64, h⟩ := er_lel h
      refine er_nm e64 ?_
      refine er_istore cx d_Mo_setDoes_79 (by decide) rfl ?_
      refine er_aload_n cx d_Mo_setDoes_81 1 rfl ?_
      obtain ⟨c65, h⟩ := er_ck h
      refine er_getr cx d_Mo_setDoes_82 fd_Mo_56 c1.1 c65 ?_
      refine er_iload cx d_Mo_setDoes_85 0 rfl ?_
      refine er_aload_n cx d_Mo_setDoes_87 1 rfl ?_
      refine er_getr cx d_Mo_setDoes_88 fd_Mo_56 c1.1 c65 ?_
      refine er_iload cx d_Mo_setDoes_91 0 rfl ?_
      obtain ⟨c67, h⟩ := er_ck h
      refine er_iald cx d_Mo_setDoes_93 c67.1 c67.2.1 c67.2.2 ?_
      refine er_iconst (v := 1) cx d_Mo_setDoes_94 rfl (by decide) ?_
      refine er_iadd cx d_Mo_setDoes_95 ?_
      obtain ⟨M68, e68, h⟩ := er_lel h
      refine er_iast cx d_Mo_setDoes_96 c67.1 c67.2.1 c67.2.2 e68 ?_
      refine er_iload cx d_Mo_setDoes_97 6 rfl ?_
      refine er_iconst (v := 1) cx d_Mo_setDoes_99 rfl (by decide) ?_
      refine er_iadd cx d_Mo_setDoes_100 ?_
      refine er_istore cx d_Mo_setDoes_101 (by decide) rfl ?_
      obtain ⟨x69, e69, h⟩ := er_lel h
      refine er_iinc cx d_Mo_setDoes_103 (k := 7) rfl (by decide) e69 rfl ?_
      refine er_goto (tgt := 29) cx d_Mo_setDoes_106 (by decide) ?_
      refine er_sb cx [3, 4, 5, 6, 7, 1, 0] rfl ?_
      exact hself _ _ _ _ _ _ _ _ h
theorem w_Mo_setDoes_29 {K : er_K} {l : Launch} {X : er_X} (cx : er_Cx K l X b_Mo_setDoes "EchoedRoundsModel" 8 rm_Mo_setDoes) {r : Int × er_Me} {T : er_Me} (rt : er_Rt K X b_Mo_setDoes (some .boolean) 0 0 (some (.inl r.1)) T r.2) : ∀ n : Nat, ∀ (v0 v1 v2 v3 v4 v5 v6 : Int) (M : er_Me), f_Mo_setDoes_29 n T v0 v1 v2 v3 v4 v5 v6 M = some r → er_G K 0 0 T M 29 [(0, .inr v0), (1, .inl v1), (2, .inl v2), (3, .inl v3), (4, .inl v4), (5, .inl v5), (6, .inl v6)] [] := by
  intro n
  induction n with
  | zero =>
    intro v0 v1 v2 v3 v4 v5 v6 M h
    cases h
  | succ n ih =>
    intro v0 v1 v2 v3 v4 v5 v6 M h
    exact w_Mo_setDoes_29_b cx rt ih v0 v1 v2 v3 v4 v5 v6 M h
def f_Mo_setDoes_3_b (self : Int → Int → Int → Int → Int → Int → er_Me → Option (Int × er_Me)) (v0 v1 v2 v3 v4 v5 : Int) (T M : er_Me) : Option (Int × er_Me) :=
  if 4 ≤ v5 then
  f_Mo_setDoes_29 er_fu T v0 v1 v2 v3 v4 0 0 M
  else
  if T v0 (-2) = 7 ∧ 0 < T v0 17 then
  if T (T v0 17) (-2) = 101 ∧ 0 ≤ v5 ∧ v5 < T (T v0 17) (-1) then
  er_le (er_up M (T v0 17) v5 0) fun M3 =>
  er_le (er_add v5 1) fun x4 =>
  self v0 v1 v2 v3 v4 x4 M3 else none else none
def f_Mo_setDoes_3 : Nat → er_Me → Int → Int → Int → Int → Int → Int → er_Me → Option (Int × er_Me)
  | 0, _ => fun _ _ _ _ _ _ _ => none
  | n + 1, T => fun v0 v1 v2 v3 v4 v5 M => f_Mo_setDoes_3_b (f_Mo_setDoes_3 n T) v0 v1 v2 v3 v4 v5 T M
set_option maxHeartbeats 4000000 in
theorem w_Mo_setDoes_3_b {K : er_K} {l : Launch} {X : er_X} (cx : er_Cx K l X b_Mo_setDoes "EchoedRoundsModel" 8 rm_Mo_setDoes) {r : Int × er_Me} {T : er_Me} (rt : er_Rt K X b_Mo_setDoes (some .boolean) 0 0 (some (.inl r.1)) T r.2) {self : Int → Int → Int → Int → Int → Int → er_Me → Option (Int × er_Me)} (hself : ∀ (v0 v1 v2 v3 v4 v5 : Int) (M : er_Me), self v0 v1 v2 v3 v4 v5 M = some r → er_G K 0 0 T M 3 [(0, .inr v0), (1, .inl v1), (2, .inl v2), (3, .inl v3), (4, .inl v4), (5, .inl v5)] []) : ∀ (v0 v1 v2 v3 v4 v5 : Int) (M : er_Me), f_Mo_setDoes_3_b self v0 v1 v2 v3 v4 v5 T M = some r → er_G K 0 0 T M 3 [(0, .inr v0), (1, .inl v1), (2, .inl v2), (3, .inl v3), (4, .inl v4), (5, .inl v5)] [] := by
  intro v0 v1 v2 v3 v4 v5 M h
  unfold f_Mo_setDoes_3_b at h
  refine er_iload cx d_Mo_setDoes_3 5 rfl ?_
  refine er_iconst (v := 4) cx d_Mo_setDoes_5 rfl (by decide) ?_
  refine er_ic_ge (tgt := 23) cx d_Mo_setDoes_6 (by decide) (fun b1 => ?_) (fun b1 => ?_)
  · have h := er_ift h b1
    refine er_iconst (v := 0) cx d_Mo_setDoes_23 rfl (by decide) ?_
    refine er_istore cx d_Mo_setDoes_24 (by decide) rfl ?_
    refine er_iconst (v := 0) cx d_Mo_setDoes_26 rfl (by decide) ?_
    refine er_istore cx d_Mo_setDoes_27 (by decide) rfl ?_
    refine er_sb cx [2, 3, 4, 5, 6, 1, 0] rfl ?_
    exact w_Mo_setDoes_29 cx rt er_fu _ _ _ _ _ _ _ _ h
  · have h := er_iff h b1
    refine er_aload_n cx d_Mo_setDoes_9 0 rfl ?_
    obtain ⟨c2, h⟩ := er_ck h
    refine er_getr cx d_Mo_setDoes_10 fd_Mo_56 c2.1 c2.2 ?_
    refine er_iload cx d_Mo_setDoes_13 5 rfl ?_
    refine er_iconst (v := 0) cx d_Mo_setDoes_15 rfl (by decide) ?_
    obtain ⟨c3, h⟩ := er_ck h
    obtain ⟨M3, e3, h⟩ := er_lel h
    refine er_iast cx d_Mo_setDoes_16 c3.1 c3.2.1 c3.2.2 e3 ?_
    obtain ⟨x4, e4, h⟩ := er_lel h
    refine er_iinc cx d_Mo_setDoes_17 (k := 5) rfl (by decide) e4 rfl ?_
    refine er_goto (tgt := 3) cx d_Mo_setDoes_20 (by decide) ?_
    refine er_sb cx [1, 2, 3, 4, 5, 0] rfl ?_
    exact hself _ _ _ _ _ _ _ h
theorem w_Mo_setDoes_3 {K : er_K} {l : Launch} {X : er_X} (cx : er_Cx K l X b_Mo_setDoes "EchoedRoundsModel" 8 rm_Mo_setDoes) {r : Int × er_Me} {T : er_Me} (rt : er_Rt K X b_Mo_setDoes (some .boolean) 0 0 (some (.inl r.1)) T r.2) : ∀ n : Nat, ∀ (v0 v1 v2 v3 v4 v5 : Int) (M : er_Me), f_Mo_setDoes_3 n T v0 v1 v2 v3 v4 v5 M = some r → er_G K 0 0 T M 3 [(0, .inr v0), (1, .inl v1), (2, .inl v2), (3, .inl v3), (4, .inl v4), (5, .inl v5)] [] := by
  intro n
  induction n with
  | zero =>
    intro v0 v1 v2 v3 v4 v5 M h
    cases h
  | succ n ih =>
    intro v0 v1 v2 v3 v4 v5 M h
    exact w_Mo_setDoes_3_b cx rt ih v0 v1 v2 v3 v4 v5 M h
def f_Mo_setDoes (p0 p1 p2 p3 p4 : Int) (T M : er_Me) : Option (Int × er_Me) :=
  f_Mo_setDoes_3 er_fu T p0 p1 p2 p3 p4 0 M
set_option maxHeartbeats 4000000 in
theorem w_Mo_setDoes {K : er_K} {l : Launch} {X : er_X} (cx : er_Cx K l X b_Mo_setDoes "EchoedRoundsModel" 8 rm_Mo_setDoes) {r : Int × er_Me} {p0 p1 p2 p3 p4 : Int} {T M : er_Me} (rt : er_Rt K X b_Mo_setDoes (some .boolean) 0 0 (some (.inl r.1)) T r.2) (h : f_Mo_setDoes p0 p1 p2 p3 p4 T M = some r) : er_G K 0 0 T M 0 [(0, .inr p0), (1, .inl p1), (2, .inl p2), (3, .inl p3), (4, .inl p4)] [] := by
  unfold f_Mo_setDoes at h
  refine er_iconst (v := 0) cx d_Mo_setDoes_0 rfl (by decide) ?_
  refine er_istore cx d_Mo_setDoes_1 (by decide) rfl ?_
  refine er_sb cx [1, 2, 3, 4, 5, 0] rfl ?_
  exact w_Mo_setDoes_3 cx rt er_fu _ _ _ _ _ _ _ h
theorem c_Mo_setDoes {l : Launch} {X : er_X} {r : Int × er_Me} {p0 p1 p2 p3 p4 : Int} {T M : er_Me} (h : f_Mo_setDoes p0 p1 p2 p3 p4 T M = some r) (hok : ∀ v ∈ ([.inr p0, .inl p1, .inl p2, .inl p3, .inl p4] : List er_V), er_ok v) : er_Ct l X y_Mo_setDoes b_Mo_setDoes 8 (some .boolean) rm_Mo_setDoes [.inr p0, .inl p1, .inl p2, .inl p3, .inl p4] T M (some (.inl r.1)) T r.2 :=
  er_ct rfl rfl (Nat.le_of_ble_eq_true rfl) hok (fun K cx rt hin => w_Mo_setDoes cx rt h)
/-! Mo_afterFirm -/
abbrev rm_Mo_afterFirm : Room := { frames := 1, cells := 0, slots := 0, locals := 21 }
def f_Mo_afterFirm_42 (T : er_Me) (v0 v1 v2 v3 s0 s1 s2 : Int) (M : er_Me) : Option (Int × er_Me) :=
  if T s0 (-2) = 101 ∧ 0 ≤ s1 ∧ s1 < T s0 (-1) then
  er_le (er_up M s0 s1 s2) fun M1 =>
  some (v3, M1) else none
set_option maxHeartbeats 4000000 in
theorem w_Mo_afterFirm_42 {K : er_K} {l : Launch} {X : er_X} (cx : er_Cx K l X b_Mo_afterFirm "EchoedRoundsModel" 5 rm_Mo_afterFirm) {r : Int × er_Me} {T : er_Me} (rt : er_Rt K X b_Mo_afterFirm (some .int) 0 0 (some (.inl r.1)) T r.2) : ∀ (v0 v1 v2 v3 s0 s1 s2 : Int) (M : er_Me), f_Mo_afterFirm_42 T v0 v1 v2 v3 s0 s1 s2 M = some r → er_G K 0 0 T M 42 [(0, .inr v0), (1, .inl v1), (2, .inl v2), (3, .inl v3)] [.inl s2, .inl s1, .inr s0] := by
  intro v0 v1 v2 v3 s0 s1 s2 M h
  unfold f_Mo_afterFirm_42 at h
  obtain ⟨c1, h⟩ := er_ck h
  obtain ⟨M1, e1, h⟩ := er_lel h
  refine er_iast cx d_Mo_afterFirm_42 c1.1 c1.2.1 c1.2.2 e1 ?_
  refine er_iload_n cx d_Mo_afterFirm_43 3 rfl ?_
  obtain rfl := Option.some.inj h
  exact er_iret rt (Or.inl rfl) d_Mo_afterFirm_44 (by decide) (by decide) ⟨rfl, rfl, rfl⟩
def f_Mo_afterFirm (p0 p1 p2 : Int) (T M : er_Me) : Option (Int × er_Me) :=
  if T p0 (-2) = 7 then
  (f_Mo_firmValue p0 (er_add (er_mul 2 (M p0 1)) 1) T M).bind fun q2 =>
  if q2.1 < 0 then
  (f_Mo_firmValue p0 (er_add (q2.2 p0 1) 1) T q2.2).bind fun q5 =>
  if q5.1 < 0 then
  if 0 < T p0 16 then
  if T (T p0 16) (-2) = 101 ∧ 0 ≤ p1 ∧ p1 < T (T p0 16) (-1) then
  some (er_and (er_shr (q5.2 (T p0 16) p1) (er_div p2 3)) 1, q5.2) else none else none
  else
  some (q5.1, q5.2)
  else
  if 0 < T p0 15 then
  if T (T p0 15) (-2) = 101 ∧ 0 ≤ p1 ∧ p1 < T (T p0 15) (-1) then
  if q2.2 (T p0 15) p1 = (-1) then
  f_Mo_afterFirm_42 T p0 p1 p2 q2.1 (T p0 15) p1 q2.1 q2.2
  else
  f_Mo_afterFirm_42 T p0 p1 p2 q2.1 (T p0 15) p1 (q2.2 (T p0 15) p1) q2.2 else none else none else none
set_option maxHeartbeats 4000000 in
theorem w_Mo_afterFirm {K : er_K} {l : Launch} {X : er_X} (cx : er_Cx K l X b_Mo_afterFirm "EchoedRoundsModel" 5 rm_Mo_afterFirm) {r : Int × er_Me} {p0 p1 p2 : Int} {T M : er_Me} (rt : er_Rt K X b_Mo_afterFirm (some .int) 0 0 (some (.inl r.1)) T r.2) (h : f_Mo_afterFirm p0 p1 p2 T M = some r) : er_G K 0 0 T M 0 [(0, .inr p0), (1, .inl p1), (2, .inl p2)] [] := by
  unfold f_Mo_afterFirm at h
  refine er_aload_n cx d_Mo_afterFirm_0 0 rfl ?_
  refine er_iconst (v := 2) cx d_Mo_afterFirm_1 rfl (by decide) ?_
  refine er_aload_n cx d_Mo_afterFirm_2 0 rfl ?_
  obtain ⟨c1, h⟩ := er_ck h
  refine er_geti cx d_Mo_afterFirm_3 fd_Mo_63 c1 ?_
  refine er_imul cx d_Mo_afterFirm_6 ?_
  refine er_iconst (v := 1) cx d_Mo_afterFirm_7 rfl (by decide) ?_
  refine er_iadd cx d_Mo_afterFirm_8 ?_
  obtain ⟨q2, e2, h⟩ := er_bd h
  refine er_callV (b := p0) (As := [.inl (er_add (er_mul 2 (M p0 1)) 1)]) (st := []) cx (c_Mo_firmValue e2) my_Mo_97 c1 ⟨by decide, by decide⟩ rfl (Nat.le_of_ble_eq_true rfl) d_Mo_afterFirm_9 ⟨Nat.zero_le _, Nat.zero_le _⟩ rfl ?_
  refine er_istore_n cx d_Mo_afterFirm_12 rfl (by decide) rfl ?_
  refine er_iload_n cx d_Mo_afterFirm_13 0 rfl ?_
  refine er_if_lt (tgt := 45) cx d_Mo_afterFirm_14 (by decide) (fun b3 => ?_) (fun b3 => ?_)
  · have h := er_ift h b3
    refine er_aload_n cx d_Mo_afterFirm_45 1 rfl ?_
    refine er_aload_n cx d_Mo_afterFirm_46 1 rfl ?_
    refine er_geti cx d_Mo_afterFirm_47 fd_Mo_63 c1 ?_
    refine er_iconst (v := 1) cx d_Mo_afterFirm_50 rfl (by decide) ?_
    refine er_iadd cx d_Mo_afterFirm_51 ?_
    obtain ⟨q5, e5, h⟩ := er_bd h
    refine er_callV (b := p0) (As := [.inl (er_add (q2.2 p0 1) 1)]) (st := []) cx (c_Mo_firmValue e5) my_Mo_97 c1 ⟨by decide, by decide⟩ rfl (Nat.le_of_ble_eq_true rfl) d_Mo_afterFirm_52 ⟨Nat.zero_le _, Nat.zero_le _⟩ rfl ?_
    refine er_istore cx d_Mo_afterFirm_55 (by decide) rfl ?_
    refine er_iload cx d_Mo_afterFirm_57 0 rfl ?_
    refine er_if_lt (tgt := 67) cx d_Mo_afterFirm_59 (by decide) (fun b6 => ?_) (fun b6 => ?_)
    · have h := er_ift h b6
      refine er_aload_n cx d_Mo_afterFirm_67 2 rfl ?_
      obtain ⟨c7, h⟩ := er_ck h
      refine er_getr cx d_Mo_afterFirm_68 fd_Mo_53 c1 c7 ?_
      refine er_iload_n cx d_Mo_afterFirm_71 3 rfl ?_
      obtain ⟨c8, h⟩ := er_ck h
      refine er_iald cx d_Mo_afterFirm_72 c8.1 c8.2.1 c8.2.2 ?_
      refine er_iload_n cx d_Mo_afterFirm_73 4 rfl ?_
      refine er_iconst (v := 3) cx d_Mo_afterFirm_74 rfl (by decide) ?_
      refine er_idiv cx d_Mo_afterFirm_75 (by decide) ?_
      refine er_ishr cx d_Mo_afterFirm_76 ?_
      refine er_iconst (v := 1) cx d_Mo_afterFirm_77 rfl (by decide) ?_
      refine er_iand cx d_Mo_afterFirm_78 ?_
      obtain rfl := Option.some.inj h
      exact er_iret rt (Or.inl rfl) d_Mo_afterFirm_79 (by decide) (by decide) ⟨rfl, rfl, rfl⟩
    · have h := er_iff h b6
      refine er_iload cx d_Mo_afterFirm_62 0 rfl ?_
      refine er_goto (tgt := 79) cx d_Mo_afterFirm_64 (by decide) ?_
      obtain rfl := Option.some.inj h
      exact er_iret rt (Or.inl rfl) d_Mo_afterFirm_79 (by decide) (by decide) ⟨rfl, rfl, rfl⟩
  · have h := er_iff h b3
    refine er_aload_n cx d_Mo_afterFirm_17 1 rfl ?_
    obtain ⟨c11, h⟩ := er_ck h
    refine er_getr cx d_Mo_afterFirm_18 fd_Mo_50 c1 c11 ?_
    refine er_iload_n cx d_Mo_afterFirm_21 2 rfl ?_
    refine er_aload_n cx d_Mo_afterFirm_22 1 rfl ?_
    refine er_getr cx d_Mo_afterFirm_23 fd_Mo_50 c1 c11 ?_
    refine er_iload_n cx d_Mo_afterFirm_26 2 rfl ?_
    obtain ⟨c13, h⟩ := er_ck h
    refine er_iald cx d_Mo_afterFirm_27 c13.1 c13.2.1 c13.2.2 ?_
    refine er_iconst (v := -1) cx d_Mo_afterFirm_28 rfl (by decide) ?_
    refine er_ic_ne (tgt := 36) cx d_Mo_afterFirm_29 (by decide) (fun b14 => ?_) (fun b14 => ?_)
    · have h := er_iff h b14
      refine er_aload_n cx d_Mo_afterFirm_36 1 rfl ?_
      refine er_getr cx d_Mo_afterFirm_37 fd_Mo_50 c1 c11 ?_
      refine er_iload_n cx d_Mo_afterFirm_40 2 rfl ?_
      refine er_iald cx d_Mo_afterFirm_41 c13.1 c13.2.1 c13.2.2 ?_
      refine er_sb cx [1, 2, 3, 0] rfl ?_
      exact w_Mo_afterFirm_42 cx rt _ _ _ _ _ _ _ _ h
    · have h := er_ift h b14
      refine er_iload_n cx d_Mo_afterFirm_32 0 rfl ?_
      refine er_goto (tgt := 42) cx d_Mo_afterFirm_33 (by decide) ?_
      refine er_sb cx [1, 2, 3, 0] rfl ?_
      exact w_Mo_afterFirm_42 cx rt _ _ _ _ _ _ _ _ h
theorem c_Mo_afterFirm {l : Launch} {X : er_X} {r : Int × er_Me} {p0 p1 p2 : Int} {T M : er_Me} (h : f_Mo_afterFirm p0 p1 p2 T M = some r) (hok : ∀ v ∈ ([.inr p0, .inl p1, .inl p2] : List er_V), er_ok v) : er_Ct l X y_Mo_afterFirm b_Mo_afterFirm 5 (some .int) rm_Mo_afterFirm [.inr p0, .inl p1, .inl p2] T M (some (.inl r.1)) T r.2 :=
  er_ct rfl rfl (Nat.le_of_ble_eq_true rfl) hok (fun K cx rt hin => w_Mo_afterFirm cx rt h)
/-! Mo_sent -/
abbrev rm_Mo_sent : Room := { frames := 1, cells := 0, slots := 0, locals := 21 }
def f_Mo_sent (p0 p1 : Int) (T M : er_Me) : Option (Int × er_Me) :=
  if T p0 (-2) = 7 then
  (f_Mo_isNode p0 p1 T M).bind fun q1 =>
  if q1.1 = 0 then
  some ((-1), q1.2)
  else
  if 0 < T p0 4 then
  if T (T p0 4) (-2) = 101 ∧ 0 ≤ p1 ∧ p1 < T (T p0 4) (-1) then
  some (q1.2 (T p0 4) p1, q1.2) else none else none else none
set_option maxHeartbeats 4000000 in
theorem w_Mo_sent {K : er_K} {l : Launch} {X : er_X} (cx : er_Cx K l X b_Mo_sent "EchoedRoundsModel" 2 rm_Mo_sent) {r : Int × er_Me} {p0 p1 : Int} {T M : er_Me} (rt : er_Rt K X b_Mo_sent (some .int) 0 0 (some (.inl r.1)) T r.2) (h : f_Mo_sent p0 p1 T M = some r) : er_G K 0 0 T M 0 [(0, .inr p0), (1, .inl p1)] [] := by
  unfold f_Mo_sent at h
  refine er_aload_n cx d_Mo_sent_0 0 rfl ?_
  refine er_iload_n cx d_Mo_sent_1 1 rfl ?_
  obtain ⟨c1, h⟩ := er_ck h
  obtain ⟨q1, e1, h⟩ := er_bd h
  refine er_callV (b := p0) (As := [.inl p1]) (st := []) cx (c_Mo_isNode e1) my_Mo_66 c1 ⟨by decide, by decide⟩ rfl (Nat.le_of_ble_eq_true rfl) d_Mo_sent_2 ⟨Nat.zero_le _, Nat.zero_le _⟩ rfl ?_
  refine er_if_eq (tgt := 17) cx d_Mo_sent_5 (by decide) (fun b2 => ?_) (fun b2 => ?_)
  · have h := er_ift h b2
    refine er_iconst (v := -1) cx d_Mo_sent_17 rfl (by decide) ?_
    obtain rfl := Option.some.inj h
    exact er_iret rt (Or.inl rfl) d_Mo_sent_18 (by decide) (by decide) ⟨rfl, rfl, rfl⟩
  · have h := er_iff h b2
    refine er_aload_n cx d_Mo_sent_8 0 rfl ?_
    obtain ⟨c4, h⟩ := er_ck h
    refine er_getr cx d_Mo_sent_9 fd_Mo_17 c1 c4 ?_
    refine er_iload_n cx d_Mo_sent_12 1 rfl ?_
    obtain ⟨c5, h⟩ := er_ck h
    refine er_iald cx d_Mo_sent_13 c5.1 c5.2.1 c5.2.2 ?_
    refine er_goto (tgt := 18) cx d_Mo_sent_14 (by decide) ?_
    obtain rfl := Option.some.inj h
    exact er_iret rt (Or.inl rfl) d_Mo_sent_18 (by decide) (by decide) ⟨rfl, rfl, rfl⟩
theorem c_Mo_sent {l : Launch} {X : er_X} {r : Int × er_Me} {p0 p1 : Int} {T M : er_Me} (h : f_Mo_sent p0 p1 T M = some r) (hok : ∀ v ∈ ([.inr p0, .inl p1] : List er_V), er_ok v) : er_Ct l X y_Mo_sent b_Mo_sent 2 (some .int) rm_Mo_sent [.inr p0, .inl p1] T M (some (.inl r.1)) T r.2 :=
  er_ct rfl rfl (Nat.le_of_ble_eq_true rfl) hok (fun K cx rt hin => w_Mo_sent cx rt h)
/-! Mo_message -/
abbrev rm_Mo_message : Room := { frames := 1, cells := 0, slots := 0, locals := 21 }
def f_Mo_message (p0 p1 p2 : Int) (T M : er_Me) : Option (Int × er_Me) :=
  if T p0 (-2) = 7 then
  (f_Mo_isNode p0 p1 T M).bind fun q1 =>
  if q1.1 = 0 then
  some ((-1), q1.2)
  else
  if p2 < 0 then
  some ((-1), q1.2)
  else
  if 0 < T p0 4 then
  if T (T p0 4) (-2) = 101 ∧ 0 ≤ p1 ∧ p1 < T (T p0 4) (-1) then
  if q1.2 (T p0 4) p1 ≤ p2 then
  some ((-1), q1.2)
  else
  if 0 < T p0 3 then
  if T (T p0 3) (-2) = 101 ∧ 0 ≤ er_add (er_mul 140 p1) p2 ∧ er_add (er_mul 140 p1) p2 < T (T p0 3) (-1) then
  some (q1.2 (T p0 3) (er_add (er_mul 140 p1) p2), q1.2) else none else none else none else none else none
set_option maxHeartbeats 4000000 in
theorem w_Mo_message {K : er_K} {l : Launch} {X : er_X} (cx : er_Cx K l X b_Mo_message "EchoedRoundsModel" 3 rm_Mo_message) {r : Int × er_Me} {p0 p1 p2 : Int} {T M : er_Me} (rt : er_Rt K X b_Mo_message (some .int) 0 0 (some (.inl r.1)) T r.2) (h : f_Mo_message p0 p1 p2 T M = some r) : er_G K 0 0 T M 0 [(0, .inr p0), (1, .inl p1), (2, .inl p2)] [] := by
  unfold f_Mo_message at h
  refine er_aload_n cx d_Mo_message_0 0 rfl ?_
  refine er_iload_n cx d_Mo_message_1 1 rfl ?_
  obtain ⟨c1, h⟩ := er_ck h
  obtain ⟨q1, e1, h⟩ := er_bd h
  refine er_callV (b := p0) (As := [.inl p1]) (st := []) cx (c_Mo_isNode e1) my_Mo_66 c1 ⟨by decide, by decide⟩ rfl (Nat.le_of_ble_eq_true rfl) d_Mo_message_2 ⟨Nat.zero_le _, Nat.zero_le _⟩ rfl ?_
  refine er_if_eq (tgt := 37) cx d_Mo_message_5 (by decide) (fun b2 => ?_) (fun b2 => ?_)
  · have h := er_ift h b2
    refine er_iconst (v := -1) cx d_Mo_message_37 rfl (by decide) ?_
    obtain rfl := Option.some.inj h
    exact er_iret rt (Or.inl rfl) d_Mo_message_38 (by decide) (by decide) ⟨rfl, rfl, rfl⟩
  · have h := er_iff h b2
    refine er_iload_n cx d_Mo_message_8 2 rfl ?_
    refine er_if_lt (tgt := 37) cx d_Mo_message_9 (by decide) (fun b4 => ?_) (fun b4 => ?_)
    · have h := er_ift h b4
      refine er_iconst (v := -1) cx d_Mo_message_37 rfl (by decide) ?_
      obtain rfl := Option.some.inj h
      exact er_iret rt (Or.inl rfl) d_Mo_message_38 (by decide) (by decide) ⟨rfl, rfl, rfl⟩
    · have h := er_iff h b4
      refine er_iload_n cx d_Mo_message_12 2 rfl ?_
      refine er_aload_n cx d_Mo_message_13 0 rfl ?_
      obtain ⟨c6, h⟩ := er_ck h
      refine er_getr cx d_Mo_message_14 fd_Mo_17 c1 c6 ?_
      refine er_iload_n cx d_Mo_message_17 1 rfl ?_
      obtain ⟨c7, h⟩ := er_ck h
      refine er_iald cx d_Mo_message_18 c7.1 c7.2.1 c7.2.2 ?_
      refine er_ic_ge (tgt := 37) cx d_Mo_message_19 (by decide) (fun b8 => ?_) (fun b8 => ?_)
      · have h := er_ift h b8
        refine er_iconst (v := -1) cx d_Mo_message_37 rfl (by decide) ?_
        obtain rfl := Option.some.inj h
        exact er_iret rt (Or.inl rfl) d_Mo_message_38 (by decide) (by decide) ⟨rfl, rfl, rfl⟩
      · have h := er_iff h b8
        refine er_aload_n cx d_Mo_message_22 0 rfl ?_
        obtain ⟨c10, h⟩ := er_ck h
        refine er_getr cx d_Mo_message_23 fd_Mo_13 c1 c10 ?_
        refine er_sipush (v := 140) cx d_Mo_message_26 (by decide +kernel) (by decide) ?_
        refine er_iload_n cx d_Mo_message_29 1 rfl ?_
        refine er_imul cx d_Mo_message_30 ?_
        refine er_iload_n cx d_Mo_message_31 2 rfl ?_
        refine er_iadd cx d_Mo_message_32 ?_
        obtain ⟨c11, h⟩ := er_ck h
        refine er_iald cx d_Mo_message_33 c11.1 c11.2.1 c11.2.2 ?_
        refine er_goto (tgt := 38) cx d_Mo_message_34 (by decide) ?_
        obtain rfl := Option.some.inj h
        exact er_iret rt (Or.inl rfl) d_Mo_message_38 (by decide) (by decide) ⟨rfl, rfl, rfl⟩
theorem c_Mo_message {l : Launch} {X : er_X} {r : Int × er_Me} {p0 p1 p2 : Int} {T M : er_Me} (h : f_Mo_message p0 p1 p2 T M = some r) (hok : ∀ v ∈ ([.inr p0, .inl p1, .inl p2] : List er_V), er_ok v) : er_Ct l X y_Mo_message b_Mo_message 3 (some .int) rm_Mo_message [.inr p0, .inl p1, .inl p2] T M (some (.inl r.1)) T r.2 :=
  er_ct rfl rfl (Nat.le_of_ble_eq_true rfl) hok (fun K cx rt hin => w_Mo_message cx rt h)
/-! Mo_waiting -/
abbrev rm_Mo_waiting : Room := { frames := 1, cells := 0, slots := 0, locals := 21 }
def f_Mo_waiting (p0 p1 p2 : Int) (T M : er_Me) : Option (Int × er_Me) :=
  if T p0 (-2) = 7 then
  (f_Mo_isNode p0 p1 T M).bind fun q1 =>
  if q1.1 = 0 then
  some ((-1), q1.2)
  else
  (f_Mo_isNode p0 p2 T q1.2).bind fun q4 =>
  if q4.1 = 0 then
  some ((-1), q4.2)
  else
  if 0 < T p0 4 then
  if T (T p0 4) (-2) = 101 ∧ 0 ≤ p1 ∧ p1 < T (T p0 4) (-1) then
  if 0 < T p0 5 then
  if T (T p0 5) (-2) = 101 ∧ 0 ≤ er_add (er_mul 7 p2) p1 ∧ er_add (er_mul 7 p2) p1 < T (T p0 5) (-1) then
  some (er_sub (q4.2 (T p0 4) p1) (q4.2 (T p0 5) (er_add (er_mul 7 p2) p1)), q4.2) else none else none else none else none else none
set_option maxHeartbeats 4000000 in
theorem w_Mo_waiting {K : er_K} {l : Launch} {X : er_X} (cx : er_Cx K l X b_Mo_waiting "EchoedRoundsModel" 3 rm_Mo_waiting) {r : Int × er_Me} {p0 p1 p2 : Int} {T M : er_Me} (rt : er_Rt K X b_Mo_waiting (some .int) 0 0 (some (.inl r.1)) T r.2) (h : f_Mo_waiting p0 p1 p2 T M = some r) : er_G K 0 0 T M 0 [(0, .inr p0), (1, .inl p1), (2, .inl p2)] [] := by
  unfold f_Mo_waiting at h
  refine er_aload_n cx d_Mo_waiting_0 0 rfl ?_
  refine er_iload_n cx d_Mo_waiting_1 1 rfl ?_
  obtain ⟨c1, h⟩ := er_ck h
  obtain ⟨q1, e1, h⟩ := er_bd h
  refine er_callV (b := p0) (As := [.inl p1]) (st := []) cx (c_Mo_isNode e1) my_Mo_66 c1 ⟨by decide, by decide⟩ rfl (Nat.le_of_ble_eq_true rfl) d_Mo_waiting_2 ⟨Nat.zero_le _, Nat.zero_le _⟩ rfl ?_
  refine er_if_eq (tgt := 37) cx d_Mo_waiting_5 (by decide) (fun b2 => ?_) (fun b2 => ?_)
  · have h := er_ift h b2
    refine er_iconst (v := -1) cx d_Mo_waiting_37 rfl (by decide) ?_
    obtain rfl := Option.some.inj h
    exact er_iret rt (Or.inl rfl) d_Mo_waiting_38 (by decide) (by decide) ⟨rfl, rfl, rfl⟩
  · have h := er_iff h b2
    refine er_aload_n cx d_Mo_waiting_8 0 rfl ?_
    refine er_iload_n cx d_Mo_waiting_9 2 rfl ?_
    obtain ⟨q4, e4, h⟩ := er_bd h
    refine er_callV (b := p0) (As := [.inl p2]) (st := []) cx (c_Mo_isNode e4) my_Mo_66 c1 ⟨by decide, by decide⟩ rfl (Nat.le_of_ble_eq_true rfl) d_Mo_waiting_10 ⟨Nat.zero_le _, Nat.zero_le _⟩ rfl ?_
    refine er_if_eq (tgt := 37) cx d_Mo_waiting_13 (by decide) (fun b5 => ?_) (fun b5 => ?_)
    · have h := er_ift h b5
      refine er_iconst (v := -1) cx d_Mo_waiting_37 rfl (by decide) ?_
      obtain rfl := Option.some.inj h
      exact er_iret rt (Or.inl rfl) d_Mo_waiting_38 (by decide) (by decide) ⟨rfl, rfl, rfl⟩
    · have h := er_iff h b5
      refine er_aload_n cx d_Mo_waiting_16 0 rfl ?_
      obtain ⟨c7, h⟩ := er_ck h
      refine er_getr cx d_Mo_waiting_17 fd_Mo_17 c1 c7 ?_
      refine er_iload_n cx d_Mo_waiting_20 1 rfl ?_
      obtain ⟨c8, h⟩ := er_ck h
      refine er_iald cx d_Mo_waiting_21 c8.1 c8.2.1 c8.2.2 ?_
      refine er_aload_n cx d_Mo_waiting_22 0 rfl ?_
      obtain ⟨c9, h⟩ := er_ck h
      refine er_getr cx d_Mo_waiting_23 fd_Mo_20 c1 c9 ?_
      refine er_bipush (v := 7) cx d_Mo_waiting_26 (by decide +kernel) (by decide) ?_
      refine er_iload_n cx d_Mo_waiting_28 2 rfl ?_
      refine er_imul cx d_Mo_waiting_29 ?_
      refine er_iload_n cx d_Mo_waiting_30 1 rfl ?_
      refine er_iadd cx d_Mo_waiting_31 ?_
      obtain ⟨c10, h⟩ := er_ck h
      refine er_iald cx d_Mo_waiting_32 c10.1 c10.2.1 c10.2.2 ?_
      refine er_isub cx d_Mo_waiting_33 ?_
      refine er_goto (tgt := 38) cx d_Mo_waiting_34 (by decide) ?_
      obtain rfl := Option.some.inj h
      exact er_iret rt (Or.inl rfl) d_Mo_waiting_38 (by decide) (by decide) ⟨rfl, rfl, rfl⟩
theorem c_Mo_waiting {l : Launch} {X : er_X} {r : Int × er_Me} {p0 p1 p2 : Int} {T M : er_Me} (h : f_Mo_waiting p0 p1 p2 T M = some r) (hok : ∀ v ∈ ([.inr p0, .inl p1, .inl p2] : List er_V), er_ok v) : er_Ct l X y_Mo_waiting b_Mo_waiting 3 (some .int) rm_Mo_waiting [.inr p0, .inl p1, .inl p2] T M (some (.inl r.1)) T r.2 :=
  er_ct rfl rfl (Nat.le_of_ble_eq_true rfl) hok (fun K cx rt hin => w_Mo_waiting cx rt h)
/-! Mo_votes -/
abbrev rm_Mo_votes : Room := { frames := 1, cells := 0, slots := 0, locals := 27 }
def f_Mo_votes_46 (T : er_Me) (v0 v1 v2 v3 v4 v5 s0 s1 s2 : Int) (M : er_Me) : Option (Int × er_Me) :=
  if T s0 (-2) = 7 then
  (f_Mo_count s0 s1 s2 v2 v3 v4 T M).bind fun q1 =>
  some (q1.1, q1.2) else none
set_option maxHeartbeats 4000000 in
theorem w_Mo_votes_46 {K : er_K} {l : Launch} {X : er_X} (cx : er_Cx K l X b_Mo_votes "EchoedRoundsModel" 6 rm_Mo_votes) {r : Int × er_Me} {T : er_Me} (rt : er_Rt K X b_Mo_votes (some .int) 0 0 (some (.inl r.1)) T r.2) : ∀ (v0 v1 v2 v3 v4 v5 s0 s1 s2 : Int) (M : er_Me), f_Mo_votes_46 T v0 v1 v2 v3 v4 v5 s0 s1 s2 M = some r → er_G K 0 0 T M 46 [(0, .inr v0), (1, .inl v1), (2, .inl v2), (3, .inl v3), (4, .inl v4), (5, .inl v5)] [.inl s2, .inl s1, .inr s0] := by
  intro v0 v1 v2 v3 v4 v5 s0 s1 s2 M h
  unfold f_Mo_votes_46 at h
  refine er_iload_n cx d_Mo_votes_46 2 rfl ?_
  refine er_iload_n cx d_Mo_votes_47 3 rfl ?_
  refine er_iload cx d_Mo_votes_48 4 rfl ?_
  obtain ⟨c1, h⟩ := er_ck h
  obtain ⟨q1, e1, h⟩ := er_bd h
  refine er_callV (b := s0) (As := [.inl s1, .inl s2, .inl v2, .inl v3, .inl v4]) (st := []) cx (c_Mo_count e1) my_Mo_78 c1 ⟨by decide, by decide⟩ rfl (Nat.le_of_ble_eq_true rfl) d_Mo_votes_50 ⟨Nat.zero_le _, Nat.zero_le _⟩ rfl ?_
  refine er_goto (tgt := 57) cx d_Mo_votes_53 (by decide) ?_
  obtain rfl := Option.some.inj h
  exact er_iret rt (Or.inl rfl) d_Mo_votes_57 (by decide) (by decide) ⟨rfl, rfl, rfl⟩
def f_Mo_votes (p0 p1 p2 p3 p4 p5 : Int) (T M : er_Me) : Option (Int × er_Me) :=
  if T p0 (-2) = 7 then
  (f_Mo_isNode p0 p1 T M).bind fun q1 =>
  if q1.1 = 0 then
  some (0, q1.2)
  else
  (f_Mo_isNode p0 p3 T q1.2).bind fun q4 =>
  if q4.1 = 0 then
  some (0, q4.2)
  else
  (f_Mo_isSlot p2 T q4.2).bind fun q7 =>
  if q7.1 = 0 then
  some (0, q7.2)
  else
  if p4 < 0 then
  some (0, q7.2)
  else
  if 3 < p4 then
  some (0, q7.2)
  else
  if p5 = 0 then
  f_Mo_votes_46 T p0 p1 p2 p3 p4 p5 p0 p1 1 q7.2
  else
  f_Mo_votes_46 T p0 p1 p2 p3 p4 p5 p0 p1 2 q7.2 else none
set_option maxHeartbeats 4000000 in
theorem w_Mo_votes {K : er_K} {l : Launch} {X : er_X} (cx : er_Cx K l X b_Mo_votes "EchoedRoundsModel" 6 rm_Mo_votes) {r : Int × er_Me} {p0 p1 p2 p3 p4 p5 : Int} {T M : er_Me} (rt : er_Rt K X b_Mo_votes (some .int) 0 0 (some (.inl r.1)) T r.2) (h : f_Mo_votes p0 p1 p2 p3 p4 p5 T M = some r) : er_G K 0 0 T M 0 [(0, .inr p0), (1, .inl p1), (2, .inl p2), (3, .inl p3), (4, .inl p4), (5, .inl p5)] [] := by
  unfold f_Mo_votes at h
  refine er_aload_n cx d_Mo_votes_0 0 rfl ?_
  refine er_iload_n cx d_Mo_votes_1 1 rfl ?_
  obtain ⟨c1, h⟩ := er_ck h
  obtain ⟨q1, e1, h⟩ := er_bd h
  refine er_callV (b := p0) (As := [.inl p1]) (st := []) cx (c_Mo_isNode e1) my_Mo_66 c1 ⟨by decide, by decide⟩ rfl (Nat.le_of_ble_eq_true rfl) d_Mo_votes_2 ⟨Nat.zero_le _, Nat.zero_le _⟩ rfl ?_
  refine er_if_eq (tgt := 56) cx d_Mo_votes_5 (by decide) (fun b2 => ?_) (fun b2 => ?_)
  · have h := er_ift h b2
    refine er_iconst (v := 0) cx d_Mo_votes_56 rfl (by decide) ?_
    obtain rfl := Option.some.inj h
    exact er_iret rt (Or.inl rfl) d_Mo_votes_57 (by decide) (by decide) ⟨rfl, rfl, rfl⟩
  · have h := er_iff h b2
    refine er_aload_n cx d_Mo_votes_8 0 rfl ?_
    refine er_iload_n cx d_Mo_votes_9 3 rfl ?_
    obtain ⟨q4, e4, h⟩ := er_bd h
    refine er_callV (b := p0) (As := [.inl p3]) (st := []) cx (c_Mo_isNode e4) my_Mo_66 c1 ⟨by decide, by decide⟩ rfl (Nat.le_of_ble_eq_true rfl) d_Mo_votes_10 ⟨Nat.zero_le _, Nat.zero_le _⟩ rfl ?_
    refine er_if_eq (tgt := 56) cx d_Mo_votes_13 (by decide) (fun b5 => ?_) (fun b5 => ?_)
    · have h := er_ift h b5
      refine er_iconst (v := 0) cx d_Mo_votes_56 rfl (by decide) ?_
      obtain rfl := Option.some.inj h
      exact er_iret rt (Or.inl rfl) d_Mo_votes_57 (by decide) (by decide) ⟨rfl, rfl, rfl⟩
    · have h := er_iff h b5
      refine er_iload_n cx d_Mo_votes_16 2 rfl ?_
      obtain ⟨q7, e7, h⟩ := er_bd h
      refine er_callS (As := [.inl p2]) (st := []) cx (c_Mo_isSlot e7) my_Mo_122 ⟨by decide, by decide⟩ rfl (Nat.le_of_ble_eq_true rfl) d_Mo_votes_17 ⟨Nat.zero_le _, Nat.zero_le _⟩ rfl ?_
      refine er_if_eq (tgt := 56) cx d_Mo_votes_20 (by decide) (fun b8 => ?_) (fun b8 => ?_)
      · have h := er_ift h b8
        refine er_iconst (v := 0) cx d_Mo_votes_56 rfl (by decide) ?_
        obtain rfl := Option.some.inj h
        exact er_iret rt (Or.inl rfl) d_Mo_votes_57 (by decide) (by decide) ⟨rfl, rfl, rfl⟩
      · have h := er_iff h b8
        refine er_iload cx d_Mo_votes_23 4 rfl ?_
        refine er_if_lt (tgt := 56) cx d_Mo_votes_25 (by decide) (fun b10 => ?_) (fun b10 => ?_)
        · have h := er_ift h b10
          refine er_iconst (v := 0) cx d_Mo_votes_56 rfl (by decide) ?_
          obtain rfl := Option.some.inj h
          exact er_iret rt (Or.inl rfl) d_Mo_votes_57 (by decide) (by decide) ⟨rfl, rfl, rfl⟩
        · have h := er_iff h b10
          refine er_iload cx d_Mo_votes_28 4 rfl ?_
          refine er_iconst (v := 3) cx d_Mo_votes_30 rfl (by decide) ?_
          refine er_ic_gt (tgt := 56) cx d_Mo_votes_31 (by decide) (fun b12 => ?_) (fun b12 => ?_)
          · have h := er_ift h b12
            refine er_iconst (v := 0) cx d_Mo_votes_56 rfl (by decide) ?_
            obtain rfl := Option.some.inj h
            exact er_iret rt (Or.inl rfl) d_Mo_votes_57 (by decide) (by decide) ⟨rfl, rfl, rfl⟩
          · have h := er_iff h b12
            refine er_aload_n cx d_Mo_votes_34 0 rfl ?_
            refine er_iload_n cx d_Mo_votes_35 1 rfl ?_
            refine er_iload cx d_Mo_votes_36 5 rfl ?_
            refine er_if_eq (tgt := 45) cx d_Mo_votes_38 (by decide) (fun b14 => ?_) (fun b14 => ?_)
            · have h := er_ift h b14
              refine er_iconst (v := 1) cx d_Mo_votes_45 rfl (by decide) ?_
              exact w_Mo_votes_46 cx rt _ _ _ _ _ _ _ _ _ _ h
            · have h := er_iff h b14
              refine er_iconst (v := 2) cx d_Mo_votes_41 rfl (by decide) ?_
              refine er_goto (tgt := 46) cx d_Mo_votes_42 (by decide) ?_
              exact w_Mo_votes_46 cx rt _ _ _ _ _ _ _ _ _ _ h
theorem c_Mo_votes {l : Launch} {X : er_X} {r : Int × er_Me} {p0 p1 p2 p3 p4 p5 : Int} {T M : er_Me} (h : f_Mo_votes p0 p1 p2 p3 p4 p5 T M = some r) (hok : ∀ v ∈ ([.inr p0, .inl p1, .inl p2, .inl p3, .inl p4, .inl p5] : List er_V), er_ok v) : er_Ct l X y_Mo_votes b_Mo_votes 6 (some .int) rm_Mo_votes [.inr p0, .inl p1, .inl p2, .inl p3, .inl p4, .inl p5] T M (some (.inl r.1)) T r.2 :=
  er_ct rfl rfl (Nat.le_of_ble_eq_true rfl) hok (fun K cx rt hin => w_Mo_votes cx rt h)
/-! Mo_accepted -/
abbrev rm_Mo_accepted : Room := { frames := 1, cells := 0, slots := 0, locals := 22 }
def f_Mo_accepted (p0 p1 p2 p3 : Int) (T M : er_Me) : Option (Int × er_Me) :=
  if T p0 (-2) = 7 then
  (f_Mo_isNode p0 p1 T M).bind fun q1 =>
  if q1.1 = 0 then
  some ((-1), q1.2)
  else
  (f_Mo_isNode p0 p3 T q1.2).bind fun q4 =>
  if q4.1 = 0 then
  some ((-1), q4.2)
  else
  (f_Mo_isSlot p2 T q4.2).bind fun q7 =>
  if q7.1 = 0 then
  some ((-1), q7.2)
  else
  if 0 < T p0 8 then
  (f_Mo_at p1 p2 p3 T q7.2).bind fun q11 =>
  if T (T p0 8) (-2) = 101 ∧ 0 ≤ q11.1 ∧ q11.1 < T (T p0 8) (-1) then
  some (er_sub (q11.2 (T p0 8) q11.1) 1, q11.2) else none else none else none
set_option maxHeartbeats 4000000 in
theorem w_Mo_accepted {K : er_K} {l : Launch} {X : er_X} (cx : er_Cx K l X b_Mo_accepted "EchoedRoundsModel" 4 rm_Mo_accepted) {r : Int × er_Me} {p0 p1 p2 p3 : Int} {T M : er_Me} (rt : er_Rt K X b_Mo_accepted (some .int) 0 0 (some (.inl r.1)) T r.2) (h : f_Mo_accepted p0 p1 p2 p3 T M = some r) : er_G K 0 0 T M 0 [(0, .inr p0), (1, .inl p1), (2, .inl p2), (3, .inl p3)] [] := by
  unfold f_Mo_accepted at h
  refine er_aload_n cx d_Mo_accepted_0 0 rfl ?_
  refine er_iload_n cx d_Mo_accepted_1 1 rfl ?_
  obtain ⟨c1, h⟩ := er_ck h
  obtain ⟨q1, e1, h⟩ := er_bd h
  refine er_callV (b := p0) (As := [.inl p1]) (st := []) cx (c_Mo_isNode e1) my_Mo_66 c1 ⟨by decide, by decide⟩ rfl (Nat.le_of_ble_eq_true rfl) d_Mo_accepted_2 ⟨Nat.zero_le _, Nat.zero_le _⟩ rfl ?_
  refine er_if_eq (tgt := 39) cx d_Mo_accepted_5 (by decide) (fun b2 => ?_) (fun b2 => ?_)
  · have h := er_ift h b2
    refine er_iconst (v := -1) cx d_Mo_accepted_39 rfl (by decide) ?_
    obtain rfl := Option.some.inj h
    exact er_iret rt (Or.inl rfl) d_Mo_accepted_40 (by decide) (by decide) ⟨rfl, rfl, rfl⟩
  · have h := er_iff h b2
    refine er_aload_n cx d_Mo_accepted_8 0 rfl ?_
    refine er_iload_n cx d_Mo_accepted_9 3 rfl ?_
    obtain ⟨q4, e4, h⟩ := er_bd h
    refine er_callV (b := p0) (As := [.inl p3]) (st := []) cx (c_Mo_isNode e4) my_Mo_66 c1 ⟨by decide, by decide⟩ rfl (Nat.le_of_ble_eq_true rfl) d_Mo_accepted_10 ⟨Nat.zero_le _, Nat.zero_le _⟩ rfl ?_
    refine er_if_eq (tgt := 39) cx d_Mo_accepted_13 (by decide) (fun b5 => ?_) (fun b5 => ?_)
    · have h := er_ift h b5
      refine er_iconst (v := -1) cx d_Mo_accepted_39 rfl (by decide) ?_
      obtain rfl := Option.some.inj h
      exact er_iret rt (Or.inl rfl) d_Mo_accepted_40 (by decide) (by decide) ⟨rfl, rfl, rfl⟩
    · have h := er_iff h b5
      refine er_iload_n cx d_Mo_accepted_16 2 rfl ?_
      obtain ⟨q7, e7, h⟩ := er_bd h
      refine er_callS (As := [.inl p2]) (st := []) cx (c_Mo_isSlot e7) my_Mo_122 ⟨by decide, by decide⟩ rfl (Nat.le_of_ble_eq_true rfl) d_Mo_accepted_17 ⟨Nat.zero_le _, Nat.zero_le _⟩ rfl ?_
      refine er_if_eq (tgt := 39) cx d_Mo_accepted_20 (by decide) (fun b8 => ?_) (fun b8 => ?_)
      · have h := er_ift h b8
        refine er_iconst (v := -1) cx d_Mo_accepted_39 rfl (by decide) ?_
        obtain rfl := Option.some.inj h
        exact er_iret rt (Or.inl rfl) d_Mo_accepted_40 (by decide) (by decide) ⟨rfl, rfl, rfl⟩
      · have h := er_iff h b8
        refine er_aload_n cx d_Mo_accepted_23 0 rfl ?_
        obtain ⟨c10, h⟩ := er_ck h
        refine er_getr cx d_Mo_accepted_24 fd_Mo_29 c1 c10 ?_
        refine er_iload_n cx d_Mo_accepted_27 1 rfl ?_
        refine er_iload_n cx d_Mo_accepted_28 2 rfl ?_
        refine er_iload_n cx d_Mo_accepted_29 3 rfl ?_
        obtain ⟨q11, e11, h⟩ := er_bd h
        refine er_callS (As := [.inl p1, .inl p2, .inl p3]) (st := [.inr (T p0 8)]) cx (c_Mo_at e11) my_Mo_70 ⟨by decide, by decide⟩ rfl (Nat.le_of_ble_eq_true rfl) d_Mo_accepted_30 ⟨Nat.zero_le _, Nat.zero_le _⟩ rfl ?_
        obtain ⟨c12, h⟩ := er_ck h
        refine er_iald cx d_Mo_accepted_33 c12.1 c12.2.1 c12.2.2 ?_
        refine er_iconst (v := 1) cx d_Mo_accepted_34 rfl (by decide) ?_
        refine er_isub cx d_Mo_accepted_35 ?_
        refine er_goto (tgt := 40) cx d_Mo_accepted_36 (by decide) ?_
        obtain rfl := Option.some.inj h
        exact er_iret rt (Or.inl rfl) d_Mo_accepted_40 (by decide) (by decide) ⟨rfl, rfl, rfl⟩
theorem c_Mo_accepted {l : Launch} {X : er_X} {r : Int × er_Me} {p0 p1 p2 p3 : Int} {T M : er_Me} (h : f_Mo_accepted p0 p1 p2 p3 T M = some r) (hok : ∀ v ∈ ([.inr p0, .inl p1, .inl p2, .inl p3] : List er_V), er_ok v) : er_Ct l X y_Mo_accepted b_Mo_accepted 4 (some .int) rm_Mo_accepted [.inr p0, .inl p1, .inl p2, .inl p3] T M (some (.inl r.1)) T r.2 :=
  er_ct rfl rfl (Nat.le_of_ble_eq_true rfl) hok (fun K cx rt hin => w_Mo_accepted cx rt h)
/-! Mo_rowAt -/
abbrev rm_Mo_rowAt : Room := { frames := 1, cells := 0, slots := 0, locals := 22 }
def f_Mo_rowAt (p0 p1 p2 p3 : Int) (T M : er_Me) : Option (Int × er_Me) :=
  if T p0 (-2) = 7 then
  (f_Mo_isNode p0 p1 T M).bind fun q1 =>
  if q1.1 = 0 then
  some ((-1), q1.2)
  else
  (f_Mo_isSlot p2 T q1.2).bind fun q4 =>
  if q4.1 = 0 then
  some ((-1), q4.2)
  else
  if p3 < 0 then
  some ((-1), q4.2)
  else
  if 0 < T p0 11 then
  if T (T p0 11) (-2) = 101 ∧ 0 ≤ er_add (er_mul 9 p1) p2 ∧ er_add (er_mul 9 p1) p2 < T (T p0 11) (-1) then
  if q4.2 (T p0 11) (er_add (er_mul 9 p1) p2) ≤ p3 then
  some ((-1), q4.2)
  else
  if 0 < T p0 10 then
  (f_Mo_at p1 p2 p3 T q4.2).bind fun q14 =>
  if T (T p0 10) (-2) = 101 ∧ 0 ≤ q14.1 ∧ q14.1 < T (T p0 10) (-1) then
  some (q14.2 (T p0 10) q14.1, q14.2) else none else none else none else none else none
set_option maxHeartbeats 4000000 in
theorem w_Mo_rowAt {K : er_K} {l : Launch} {X : er_X} (cx : er_Cx K l X b_Mo_rowAt "EchoedRoundsModel" 4 rm_Mo_rowAt) {r : Int × er_Me} {p0 p1 p2 p3 : Int} {T M : er_Me} (rt : er_Rt K X b_Mo_rowAt (some .int) 0 0 (some (.inl r.1)) T r.2) (h : f_Mo_rowAt p0 p1 p2 p3 T M = some r) : er_G K 0 0 T M 0 [(0, .inr p0), (1, .inl p1), (2, .inl p2), (3, .inl p3)] [] := by
  unfold f_Mo_rowAt at h
  refine er_aload_n cx d_Mo_rowAt_0 0 rfl ?_
  refine er_iload_n cx d_Mo_rowAt_1 1 rfl ?_
  obtain ⟨c1, h⟩ := er_ck h
  obtain ⟨q1, e1, h⟩ := er_bd h
  refine er_callV (b := p0) (As := [.inl p1]) (st := []) cx (c_Mo_isNode e1) my_Mo_66 c1 ⟨by decide, by decide⟩ rfl (Nat.le_of_ble_eq_true rfl) d_Mo_rowAt_2 ⟨Nat.zero_le _, Nat.zero_le _⟩ rfl ?_
  refine er_if_eq (tgt := 48) cx d_Mo_rowAt_5 (by decide) (fun b2 => ?_) (fun b2 => ?_)
  · have h := er_ift h b2
    refine er_iconst (v := -1) cx d_Mo_rowAt_48 rfl (by decide) ?_
    obtain rfl := Option.some.inj h
    exact er_iret rt (Or.inl rfl) d_Mo_rowAt_49 (by decide) (by decide) ⟨rfl, rfl, rfl⟩
  · have h := er_iff h b2
    refine er_iload_n cx d_Mo_rowAt_8 2 rfl ?_
    obtain ⟨q4, e4, h⟩ := er_bd h
    refine er_callS (As := [.inl p2]) (st := []) cx (c_Mo_isSlot e4) my_Mo_122 ⟨by decide, by decide⟩ rfl (Nat.le_of_ble_eq_true rfl) d_Mo_rowAt_9 ⟨Nat.zero_le _, Nat.zero_le _⟩ rfl ?_
    refine er_if_eq (tgt := 48) cx d_Mo_rowAt_12 (by decide) (fun b5 => ?_) (fun b5 => ?_)
    · have h := er_ift h b5
      refine er_iconst (v := -1) cx d_Mo_rowAt_48 rfl (by decide) ?_
      obtain rfl := Option.some.inj h
      exact er_iret rt (Or.inl rfl) d_Mo_rowAt_49 (by decide) (by decide) ⟨rfl, rfl, rfl⟩
    · have h := er_iff h b5
      refine er_iload_n cx d_Mo_rowAt_15 3 rfl ?_
      refine er_if_lt (tgt := 48) cx d_Mo_rowAt_16 (by decide) (fun b7 => ?_) (fun b7 => ?_)
      · have h := er_ift h b7
        refine er_iconst (v := -1) cx d_Mo_rowAt_48 rfl (by decide) ?_
        obtain rfl := Option.some.inj h
        exact er_iret rt (Or.inl rfl) d_Mo_rowAt_49 (by decide) (by decide) ⟨rfl, rfl, rfl⟩
      · have h := er_iff h b7
        refine er_iload_n cx d_Mo_rowAt_19 3 rfl ?_
        refine er_aload_n cx d_Mo_rowAt_20 0 rfl ?_
        obtain ⟨c9, h⟩ := er_ck h
        refine er_getr cx d_Mo_rowAt_21 fd_Mo_38 c1 c9 ?_
        refine er_bipush (v := 9) cx d_Mo_rowAt_24 (by decide +kernel) (by decide) ?_
        refine er_iload_n cx d_Mo_rowAt_26 1 rfl ?_
        refine er_imul cx d_Mo_rowAt_27 ?_
        refine er_iload_n cx d_Mo_rowAt_28 2 rfl ?_
        refine er_iadd cx d_Mo_rowAt_29 ?_
        obtain ⟨c10, h⟩ := er_ck h
        refine er_iald cx d_Mo_rowAt_30 c10.1 c10.2.1 c10.2.2 ?_
        refine er_ic_ge (tgt := 48) cx d_Mo_rowAt_31 (by decide) (fun b11 => ?_) (fun b11 => ?_)
        · have h := er_ift h b11
          refine er_iconst (v := -1) cx d_Mo_rowAt_48 rfl (by decide) ?_
          obtain rfl := Option.some.inj h
          exact er_iret rt (Or.inl rfl) d_Mo_rowAt_49 (by decide) (by decide) ⟨rfl, rfl, rfl⟩
        · have h := er_iff h b11
          refine er_aload_n cx d_Mo_rowAt_34 0 rfl ?_
          obtain ⟨c13, h⟩ := er_ck h
          refine er_getr cx d_Mo_rowAt_35 fd_Mo_35 c1 c13 ?_
          refine er_iload_n cx d_Mo_rowAt_38 1 rfl ?_
          refine er_iload_n cx d_Mo_rowAt_39 2 rfl ?_
          refine er_iload_n cx d_Mo_rowAt_40 3 rfl ?_
          obtain ⟨q14, e14, h⟩ := er_bd h
          refine er_callS (As := [.inl p1, .inl p2, .inl p3]) (st := [.inr (T p0 10)]) cx (c_Mo_at e14) my_Mo_70 ⟨by decide, by decide⟩ rfl (Nat.le_of_ble_eq_true rfl) d_Mo_rowAt_41 ⟨Nat.zero_le _, Nat.zero_le _⟩ rfl ?_
          obtain ⟨c15, h⟩ := er_ck h
          refine er_iald cx d_Mo_rowAt_44 c15.1 c15.2.1 c15.2.2 ?_
          refine er_goto (tgt := 49) cx d_Mo_rowAt_45 (by decide) ?_
          obtain rfl := Option.some.inj h
          exact er_iret rt (Or.inl rfl) d_Mo_rowAt_49 (by decide) (by decide) ⟨rfl, rfl, rfl⟩
theorem c_Mo_rowAt {l : Launch} {X : er_X} {r : Int × er_Me} {p0 p1 p2 p3 : Int} {T M : er_Me} (h : f_Mo_rowAt p0 p1 p2 p3 T M = some r) (hok : ∀ v ∈ ([.inr p0, .inl p1, .inl p2, .inl p3] : List er_V), er_ok v) : er_Ct l X y_Mo_rowAt b_Mo_rowAt 4 (some .int) rm_Mo_rowAt [.inr p0, .inl p1, .inl p2, .inl p3] T M (some (.inl r.1)) T r.2 :=
  er_ct rfl rfl (Nat.le_of_ble_eq_true rfl) hok (fun K cx rt hin => w_Mo_rowAt cx rt h)
/-! Mo_slot -/
abbrev rm_Mo_slot : Room := { frames := 1, cells := 0, slots := 0, locals := 21 }
def f_Mo_slot (p0 p1 : Int) (T M : er_Me) : Option (Int × er_Me) :=
  if T p0 (-2) = 7 then
  (f_Mo_isNode p0 p1 T M).bind fun q1 =>
  if q1.1 = 0 then
  some ((-1), q1.2)
  else
  if 0 < T p0 13 then
  if T (T p0 13) (-2) = 101 ∧ 0 ≤ p1 ∧ p1 < T (T p0 13) (-1) then
  some (q1.2 (T p0 13) p1, q1.2) else none else none else none
set_option maxHeartbeats 4000000 in
theorem w_Mo_slot {K : er_K} {l : Launch} {X : er_X} (cx : er_Cx K l X b_Mo_slot "EchoedRoundsModel" 2 rm_Mo_slot) {r : Int × er_Me} {p0 p1 : Int} {T M : er_Me} (rt : er_Rt K X b_Mo_slot (some .int) 0 0 (some (.inl r.1)) T r.2) (h : f_Mo_slot p0 p1 T M = some r) : er_G K 0 0 T M 0 [(0, .inr p0), (1, .inl p1)] [] := by
  unfold f_Mo_slot at h
  refine er_aload_n cx d_Mo_slot_0 0 rfl ?_
  refine er_iload_n cx d_Mo_slot_1 1 rfl ?_
  obtain ⟨c1, h⟩ := er_ck h
  obtain ⟨q1, e1, h⟩ := er_bd h
  refine er_callV (b := p0) (As := [.inl p1]) (st := []) cx (c_Mo_isNode e1) my_Mo_66 c1 ⟨by decide, by decide⟩ rfl (Nat.le_of_ble_eq_true rfl) d_Mo_slot_2 ⟨Nat.zero_le _, Nat.zero_le _⟩ rfl ?_
  refine er_if_eq (tgt := 17) cx d_Mo_slot_5 (by decide) (fun b2 => ?_) (fun b2 => ?_)
  · have h := er_ift h b2
    refine er_iconst (v := -1) cx d_Mo_slot_17 rfl (by decide) ?_
    obtain rfl := Option.some.inj h
    exact er_iret rt (Or.inl rfl) d_Mo_slot_18 (by decide) (by decide) ⟨rfl, rfl, rfl⟩
  · have h := er_iff h b2
    refine er_aload_n cx d_Mo_slot_8 0 rfl ?_
    obtain ⟨c4, h⟩ := er_ck h
    refine er_getr cx d_Mo_slot_9 fd_Mo_44 c1 c4 ?_
    refine er_iload_n cx d_Mo_slot_12 1 rfl ?_
    obtain ⟨c5, h⟩ := er_ck h
    refine er_iald cx d_Mo_slot_13 c5.1 c5.2.1 c5.2.2 ?_
    refine er_goto (tgt := 18) cx d_Mo_slot_14 (by decide) ?_
    obtain rfl := Option.some.inj h
    exact er_iret rt (Or.inl rfl) d_Mo_slot_18 (by decide) (by decide) ⟨rfl, rfl, rfl⟩
theorem c_Mo_slot {l : Launch} {X : er_X} {r : Int × er_Me} {p0 p1 : Int} {T M : er_Me} (h : f_Mo_slot p0 p1 T M = some r) (hok : ∀ v ∈ ([.inr p0, .inl p1] : List er_V), er_ok v) : er_Ct l X y_Mo_slot b_Mo_slot 2 (some .int) rm_Mo_slot [.inr p0, .inl p1] T M (some (.inl r.1)) T r.2 :=
  er_ct rfl rfl (Nat.le_of_ble_eq_true rfl) hok (fun K cx rt hin => w_Mo_slot cx rt h)
/-! Mo_value -/
abbrev rm_Mo_value : Room := { frames := 1, cells := 0, slots := 0, locals := 21 }
def f_Mo_value (p0 p1 : Int) (T M : er_Me) : Option (Int × er_Me) :=
  if T p0 (-2) = 7 then
  (f_Mo_isNode p0 p1 T M).bind fun q1 =>
  if q1.1 = 0 then
  some ((-1), q1.2)
  else
  if 0 < T p0 13 then
  if T (T p0 13) (-2) = 101 ∧ 0 ≤ p1 ∧ p1 < T (T p0 13) (-1) then
  if q1.2 (T p0 13) p1 < 0 then
  some ((-1), q1.2)
  else
  if 0 < T p0 14 then
  if T (T p0 14) (-2) = 101 ∧ p1 < T (T p0 14) (-1) then
  some (q1.2 (T p0 14) p1, q1.2) else none else none else none else none else none
set_option maxHeartbeats 4000000 in
theorem w_Mo_value {K : er_K} {l : Launch} {X : er_X} (cx : er_Cx K l X b_Mo_value "EchoedRoundsModel" 2 rm_Mo_value) {r : Int × er_Me} {p0 p1 : Int} {T M : er_Me} (rt : er_Rt K X b_Mo_value (some .int) 0 0 (some (.inl r.1)) T r.2) (h : f_Mo_value p0 p1 T M = some r) : er_G K 0 0 T M 0 [(0, .inr p0), (1, .inl p1)] [] := by
  unfold f_Mo_value at h
  refine er_aload_n cx d_Mo_value_0 0 rfl ?_
  refine er_iload_n cx d_Mo_value_1 1 rfl ?_
  obtain ⟨c1, h⟩ := er_ck h
  obtain ⟨q1, e1, h⟩ := er_bd h
  refine er_callV (b := p0) (As := [.inl p1]) (st := []) cx (c_Mo_isNode e1) my_Mo_66 c1 ⟨by decide, by decide⟩ rfl (Nat.le_of_ble_eq_true rfl) d_Mo_value_2 ⟨Nat.zero_le _, Nat.zero_le _⟩ rfl ?_
  refine er_if_eq (tgt := 26) cx d_Mo_value_5 (by decide) (fun b2 => ?_) (fun b2 => ?_)
  · have h := er_ift h b2
    refine er_iconst (v := -1) cx d_Mo_value_26 rfl (by decide) ?_
    obtain rfl := Option.some.inj h
    exact er_iret rt (Or.inl rfl) d_Mo_value_27 (by decide) (by decide) ⟨rfl, rfl, rfl⟩
  · have h := er_iff h b2
    refine er_aload_n cx d_Mo_value_8 0 rfl ?_
    obtain ⟨c4, h⟩ := er_ck h
    refine er_getr cx d_Mo_value_9 fd_Mo_44 c1 c4 ?_
    refine er_iload_n cx d_Mo_value_12 1 rfl ?_
    obtain ⟨c5, h⟩ := er_ck h
    refine er_iald cx d_Mo_value_13 c5.1 c5.2.1 c5.2.2 ?_
    refine er_if_lt (tgt := 26) cx d_Mo_value_14 (by decide) (fun b6 => ?_) (fun b6 => ?_)
    · have h := er_ift h b6
      refine er_iconst (v := -1) cx d_Mo_value_26 rfl (by decide) ?_
      obtain rfl := Option.some.inj h
      exact er_iret rt (Or.inl rfl) d_Mo_value_27 (by decide) (by decide) ⟨rfl, rfl, rfl⟩
    · have h := er_iff h b6
      refine er_aload_n cx d_Mo_value_17 0 rfl ?_
      obtain ⟨c8, h⟩ := er_ck h
      refine er_getr cx d_Mo_value_18 fd_Mo_47 c1 c8 ?_
      refine er_iload_n cx d_Mo_value_21 1 rfl ?_
      obtain ⟨c9, h⟩ := er_ck h
      refine er_iald cx d_Mo_value_22 c9.1 c5.2.1 c9.2 ?_
      refine er_goto (tgt := 27) cx d_Mo_value_23 (by decide) ?_
      obtain rfl := Option.some.inj h
      exact er_iret rt (Or.inl rfl) d_Mo_value_27 (by decide) (by decide) ⟨rfl, rfl, rfl⟩
theorem c_Mo_value {l : Launch} {X : er_X} {r : Int × er_Me} {p0 p1 : Int} {T M : er_Me} (h : f_Mo_value p0 p1 T M = some r) (hok : ∀ v ∈ ([.inr p0, .inl p1] : List er_V), er_ok v) : er_Ct l X y_Mo_value b_Mo_value 2 (some .int) rm_Mo_value [.inr p0, .inl p1] T M (some (.inl r.1)) T r.2 :=
  er_ct rfl rfl (Nat.le_of_ble_eq_true rfl) hok (fun K cx rt hin => w_Mo_value cx rt h)
/-! Mo_decided -/
abbrev rm_Mo_decided : Room := { frames := 1, cells := 0, slots := 0, locals := 21 }
def f_Mo_decided (p0 p1 : Int) (T M : er_Me) : Option (Int × er_Me) :=
  if T p0 (-2) = 7 then
  (f_Mo_isNode p0 p1 T M).bind fun q1 =>
  if q1.1 = 0 then
  some ((-1), q1.2)
  else
  if 0 < T p0 15 then
  if T (T p0 15) (-2) = 101 ∧ 0 ≤ p1 ∧ p1 < T (T p0 15) (-1) then
  some (q1.2 (T p0 15) p1, q1.2) else none else none else none
set_option maxHeartbeats 4000000 in
theorem w_Mo_decided {K : er_K} {l : Launch} {X : er_X} (cx : er_Cx K l X b_Mo_decided "EchoedRoundsModel" 2 rm_Mo_decided) {r : Int × er_Me} {p0 p1 : Int} {T M : er_Me} (rt : er_Rt K X b_Mo_decided (some .int) 0 0 (some (.inl r.1)) T r.2) (h : f_Mo_decided p0 p1 T M = some r) : er_G K 0 0 T M 0 [(0, .inr p0), (1, .inl p1)] [] := by
  unfold f_Mo_decided at h
  refine er_aload_n cx d_Mo_decided_0 0 rfl ?_
  refine er_iload_n cx d_Mo_decided_1 1 rfl ?_
  obtain ⟨c1, h⟩ := er_ck h
  obtain ⟨q1, e1, h⟩ := er_bd h
  refine er_callV (b := p0) (As := [.inl p1]) (st := []) cx (c_Mo_isNode e1) my_Mo_66 c1 ⟨by decide, by decide⟩ rfl (Nat.le_of_ble_eq_true rfl) d_Mo_decided_2 ⟨Nat.zero_le _, Nat.zero_le _⟩ rfl ?_
  refine er_if_eq (tgt := 17) cx d_Mo_decided_5 (by decide) (fun b2 => ?_) (fun b2 => ?_)
  · have h := er_ift h b2
    refine er_iconst (v := -1) cx d_Mo_decided_17 rfl (by decide) ?_
    obtain rfl := Option.some.inj h
    exact er_iret rt (Or.inl rfl) d_Mo_decided_18 (by decide) (by decide) ⟨rfl, rfl, rfl⟩
  · have h := er_iff h b2
    refine er_aload_n cx d_Mo_decided_8 0 rfl ?_
    obtain ⟨c4, h⟩ := er_ck h
    refine er_getr cx d_Mo_decided_9 fd_Mo_50 c1 c4 ?_
    refine er_iload_n cx d_Mo_decided_12 1 rfl ?_
    obtain ⟨c5, h⟩ := er_ck h
    refine er_iald cx d_Mo_decided_13 c5.1 c5.2.1 c5.2.2 ?_
    refine er_goto (tgt := 18) cx d_Mo_decided_14 (by decide) ?_
    obtain rfl := Option.some.inj h
    exact er_iret rt (Or.inl rfl) d_Mo_decided_18 (by decide) (by decide) ⟨rfl, rfl, rfl⟩
theorem c_Mo_decided {l : Launch} {X : er_X} {r : Int × er_Me} {p0 p1 : Int} {T M : er_Me} (h : f_Mo_decided p0 p1 T M = some r) (hok : ∀ v ∈ ([.inr p0, .inl p1] : List er_V), er_ok v) : er_Ct l X y_Mo_decided b_Mo_decided 2 (some .int) rm_Mo_decided [.inr p0, .inl p1] T M (some (.inl r.1)) T r.2 :=
  er_ct rfl rfl (Nat.le_of_ble_eq_true rfl) hok (fun K cx rt hin => w_Mo_decided cx rt h)
/-! Mo_corrupt -/
abbrev rm_Mo_corrupt : Room := { frames := 2, cells := 0, slots := 0, locals := 42 }
def f_Mo_corrupt (p0 p1 : Int) (T M : er_Me) : Option (Int × er_Me) :=
  if T p0 (-2) = 7 then
  (f_Mo_well p0 p1 T M).bind fun q1 =>
  if q1.1 = 0 then
  some (0, q1.2)
  else
  if 0 < T p0 2 then
  if T (T p0 2) (-2) = 102 ∧ 0 ≤ p1 ∧ p1 < T (T p0 2) (-1) then
  er_le (er_up q1.2 (T p0 2) p1 1) fun M4 =>
  some (1, M4) else none else none else none
set_option maxHeartbeats 4000000 in
theorem w_Mo_corrupt {K : er_K} {l : Launch} {X : er_X} (cx : er_Cx K l X b_Mo_corrupt "EchoedRoundsModel" 2 rm_Mo_corrupt) {r : Int × er_Me} {p0 p1 : Int} {T M : er_Me} (rt : er_Rt K X b_Mo_corrupt (some .boolean) 0 0 (some (.inl r.1)) T r.2) (h : f_Mo_corrupt p0 p1 T M = some r) : er_G K 0 0 T M 0 [(0, .inr p0), (1, .inl p1)] [] := by
  unfold f_Mo_corrupt at h
  refine er_aload_n cx d_Mo_corrupt_0 0 rfl ?_
  refine er_iload_n cx d_Mo_corrupt_1 1 rfl ?_
  obtain ⟨c1, h⟩ := er_ck h
  obtain ⟨q1, e1, h⟩ := er_bd h
  refine er_callV (b := p0) (As := [.inl p1]) (st := []) cx (c_Mo_well e1) my_Mo_115 c1 ⟨by decide, by decide⟩ rfl (Nat.le_of_ble_eq_true rfl) d_Mo_corrupt_2 ⟨Nat.zero_le _, Nat.zero_le _⟩ rfl ?_
  refine er_if_ne (tgt := 10) cx d_Mo_corrupt_5 (by decide) (fun b2 => ?_) (fun b2 => ?_)
  · have h := er_iff h b2
    refine er_aload_n cx d_Mo_corrupt_10 0 rfl ?_
    obtain ⟨c3, h⟩ := er_ck h
    refine er_getr cx d_Mo_corrupt_11 fd_Mo_7 c1 c3 ?_
    refine er_iload_n cx d_Mo_corrupt_14 1 rfl ?_
    refine er_iconst (v := 1) cx d_Mo_corrupt_15 rfl (by decide) ?_
    obtain ⟨c4, h⟩ := er_ck h
    obtain ⟨M4, e4, h⟩ := er_lel h
    refine er_zast cx d_Mo_corrupt_16 c4.1 c4.2.1 c4.2.2 (Or.inr rfl) e4 ?_
    refine er_iconst (v := 1) cx d_Mo_corrupt_17 rfl (by decide) ?_
    obtain rfl := Option.some.inj h
    exact er_iret rt (Or.inr ⟨rfl, Or.inr rfl⟩) d_Mo_corrupt_18 (by decide) (by decide) ⟨rfl, rfl, rfl⟩
  · have h := er_ift h b2
    refine er_iconst (v := 0) cx d_Mo_corrupt_8 rfl (by decide) ?_
    obtain rfl := Option.some.inj h
    exact er_iret rt (Or.inr ⟨rfl, Or.inl rfl⟩) d_Mo_corrupt_9 (by decide) (by decide) ⟨rfl, rfl, rfl⟩
theorem c_Mo_corrupt {l : Launch} {X : er_X} {r : Int × er_Me} {p0 p1 : Int} {T M : er_Me} (h : f_Mo_corrupt p0 p1 T M = some r) (hok : ∀ v ∈ ([.inr p0, .inl p1] : List er_V), er_ok v) : er_Ct l X y_Mo_corrupt b_Mo_corrupt 2 (some .boolean) rm_Mo_corrupt [.inr p0, .inl p1] T M (some (.inl r.1)) T r.2 :=
  er_ct rfl rfl (Nat.le_of_ble_eq_true rfl) hok (fun K cx rt hin => w_Mo_corrupt cx rt h)
/-! Mo_tosses -/
abbrev rm_Mo_tosses : Room := { frames := 2, cells := 0, slots := 0, locals := 42 }
def f_Mo_tosses (p0 p1 p2 : Int) (T M : er_Me) : Option (Int × er_Me) :=
  if T p0 (-2) = 7 then
  (f_Mo_well p0 p1 T M).bind fun q1 =>
  if q1.1 = 0 then
  some (0, q1.2)
  else
  if 0 < T p0 16 then
  if T (T p0 16) (-2) = 101 ∧ 0 ≤ p1 ∧ p1 < T (T p0 16) (-1) then
  er_le (er_up q1.2 (T p0 16) p1 (er_and p2 7)) fun M4 =>
  some (1, M4) else none else none else none
set_option maxHeartbeats 4000000 in
theorem w_Mo_tosses {K : er_K} {l : Launch} {X : er_X} (cx : er_Cx K l X b_Mo_tosses "EchoedRoundsModel" 3 rm_Mo_tosses) {r : Int × er_Me} {p0 p1 p2 : Int} {T M : er_Me} (rt : er_Rt K X b_Mo_tosses (some .boolean) 0 0 (some (.inl r.1)) T r.2) (h : f_Mo_tosses p0 p1 p2 T M = some r) : er_G K 0 0 T M 0 [(0, .inr p0), (1, .inl p1), (2, .inl p2)] [] := by
  unfold f_Mo_tosses at h
  refine er_aload_n cx d_Mo_tosses_0 0 rfl ?_
  refine er_iload_n cx d_Mo_tosses_1 1 rfl ?_
  obtain ⟨c1, h⟩ := er_ck h
  obtain ⟨q1, e1, h⟩ := er_bd h
  refine er_callV (b := p0) (As := [.inl p1]) (st := []) cx (c_Mo_well e1) my_Mo_115 c1 ⟨by decide, by decide⟩ rfl (Nat.le_of_ble_eq_true rfl) d_Mo_tosses_2 ⟨Nat.zero_le _, Nat.zero_le _⟩ rfl ?_
  refine er_if_ne (tgt := 10) cx d_Mo_tosses_5 (by decide) (fun b2 => ?_) (fun b2 => ?_)
  · have h := er_iff h b2
    refine er_aload_n cx d_Mo_tosses_10 0 rfl ?_
    obtain ⟨c3, h⟩ := er_ck h
    refine er_getr cx d_Mo_tosses_11 fd_Mo_53 c1 c3 ?_
    refine er_iload_n cx d_Mo_tosses_14 1 rfl ?_
    refine er_iload_n cx d_Mo_tosses_15 2 rfl ?_
    refine er_bipush (v := 7) cx d_Mo_tosses_16 (by decide +kernel) (by decide) ?_
    refine er_iand cx d_Mo_tosses_18 ?_
    obtain ⟨c4, h⟩ := er_ck h
    obtain ⟨M4, e4, h⟩ := er_lel h
    refine er_iast cx d_Mo_tosses_19 c4.1 c4.2.1 c4.2.2 e4 ?_
    refine er_iconst (v := 1) cx d_Mo_tosses_20 rfl (by decide) ?_
    obtain rfl := Option.some.inj h
    exact er_iret rt (Or.inr ⟨rfl, Or.inr rfl⟩) d_Mo_tosses_21 (by decide) (by decide) ⟨rfl, rfl, rfl⟩
  · have h := er_ift h b2
    refine er_iconst (v := 0) cx d_Mo_tosses_8 rfl (by decide) ?_
    obtain rfl := Option.some.inj h
    exact er_iret rt (Or.inr ⟨rfl, Or.inl rfl⟩) d_Mo_tosses_9 (by decide) (by decide) ⟨rfl, rfl, rfl⟩
theorem c_Mo_tosses {l : Launch} {X : er_X} {r : Int × er_Me} {p0 p1 p2 : Int} {T M : er_Me} (h : f_Mo_tosses p0 p1 p2 T M = some r) (hok : ∀ v ∈ ([.inr p0, .inl p1, .inl p2] : List er_V), er_ok v) : er_Ct l X y_Mo_tosses b_Mo_tosses 3 (some .boolean) rm_Mo_tosses [.inr p0, .inl p1, .inl p2] T M (some (.inl r.1)) T r.2 :=
  er_ct rfl rfl (Nat.le_of_ble_eq_true rfl) hok (fun K cx rt hin => w_Mo_tosses cx rt h)
/-! Mo_receive -/
abbrev rm_Mo_receive : Room := { frames := 2, cells := 0, slots := 0, locals := 47 }
def f_Mo_receive_176 (T : er_Me) (v0 v1 v2 v3 v4 v5 v6 v7 v8 v9 v10 : Int) (M : er_Me) : Option (Int × er_Me) :=
  if v3 = 2 then
  if T v0 (-2) = 7 then
  if v9 < er_add (er_mul 2 (M v0 1)) 1 then
  some (1, M)
  else
  if 0 < T v0 8 then
  if T (T v0 8) (-2) = 101 ∧ 0 ≤ v7 ∧ v7 < T (T v0 8) (-1) then
  if M (T v0 8) v7 = 0 then
  er_le (er_up M (T v0 8) v7 (er_add v6 1)) fun M11 =>
  some (1, M11)
  else
  some (1, M) else none else none else none
  else
  some (1, M)
set_option maxHeartbeats 4000000 in
theorem w_Mo_receive_176 {K : er_K} {l : Launch} {X : er_X} (cx : er_Cx K l X b_Mo_receive "EchoedRoundsModel" 11 rm_Mo_receive) {r : Int × er_Me} {T : er_Me} (rt : er_Rt K X b_Mo_receive (some .boolean) 0 0 (some (.inl r.1)) T r.2) : ∀ (v0 v1 v2 v3 v4 v5 v6 v7 v8 v9 v10 : Int) (M : er_Me), f_Mo_receive_176 T v0 v1 v2 v3 v4 v5 v6 v7 v8 v9 v10 M = some r → er_G K 0 0 T M 176 [(0, .inr v0), (1, .inl v1), (2, .inl v2), (3, .inl v3), (4, .inl v4), (5, .inl v5), (6, .inl v6), (7, .inl v7), (8, .inl v8), (9, .inl v9), (10, .inl v10)] [] := by
  intro v0 v1 v2 v3 v4 v5 v6 v7 v8 v9 v10 M h
  unfold f_Mo_receive_176 at h
  refine er_iload_n cx d_Mo_receive_176 3 rfl ?_
  refine er_iconst (v := 2) cx d_Mo_receive_177 rfl (by decide) ?_
  refine er_ic_ne (tgt := 215) cx d_Mo_receive_178 (by decide) (fun b1 => ?_) (fun b1 => ?_)
  · have h := er_iff h b1
    refine er_iconst (v := 1) cx d_Mo_receive_215 rfl (by decide) ?_
    obtain rfl := Option.some.inj h
    exact er_iret rt (Or.inr ⟨rfl, Or.inr rfl⟩) d_Mo_receive_216 (by decide) (by decide) ⟨rfl, rfl, rfl⟩
  · have h := er_ift h b1
    refine er_iload cx d_Mo_receive_181 9 rfl ?_
    refine er_iconst (v := 2) cx d_Mo_receive_183 rfl (by decide) ?_
    refine er_aload_n cx d_Mo_receive_184 0 rfl ?_
    obtain ⟨c3, h⟩ := er_ck h
    refine er_geti cx d_Mo_receive_185 fd_Mo_63 c3 ?_
    refine er_imul cx d_Mo_receive_188 ?_
    refine er_iconst (v := 1) cx d_Mo_receive_189 rfl (by decide) ?_
    refine er_iadd cx d_Mo_receive_190 ?_
    refine er_ic_lt (tgt := 215) cx d_Mo_receive_191 (by decide) (fun b4 => ?_) (fun b4 => ?_)
    · have h := er_ift h b4
      refine er_iconst (v := 1) cx d_Mo_receive_215 rfl (by decide) ?_
      obtain rfl := Option.some.inj h
      exact er_iret rt (Or.inr ⟨rfl, Or.inr rfl⟩) d_Mo_receive_216 (by decide) (by decide) ⟨rfl, rfl, rfl⟩
    · have h := er_iff h b4
      refine er_aload_n cx d_Mo_receive_194 0 rfl ?_
      obtain ⟨c6, h⟩ := er_ck h
      refine er_getr cx d_Mo_receive_195 fd_Mo_29 c3 c6 ?_
      refine er_iload cx d_Mo_receive_198 7 rfl ?_
      obtain ⟨c7, h⟩ := er_ck h
      refine er_iald cx d_Mo_receive_200 c7.1 c7.2.1 c7.2.2 ?_
      refine er_if_ne (tgt := 215) cx d_Mo_receive_201 (by decide) (fun b8 => ?_) (fun b8 => ?_)
      · have h := er_iff h b8
        refine er_iconst (v := 1) cx d_Mo_receive_215 rfl (by decide) ?_
        obtain rfl := Option.some.inj h
        exact er_iret rt (Or.inr ⟨rfl, Or.inr rfl⟩) d_Mo_receive_216 (by decide) (by decide) ⟨rfl, rfl, rfl⟩
      · have h := er_ift h b8
        refine er_aload_n cx d_Mo_receive_204 0 rfl ?_
        refine er_getr cx d_Mo_receive_205 fd_Mo_29 c3 c6 ?_
        refine er_iload cx d_Mo_receive_208 7 rfl ?_
        refine er_iload cx d_Mo_receive_210 6 rfl ?_
        refine er_iconst (v := 1) cx d_Mo_receive_212 rfl (by decide) ?_
        refine er_iadd cx d_Mo_receive_213 ?_
        obtain ⟨M11, e11, h⟩ := er_lel h
        refine er_iast cx d_Mo_receive_214 c7.1 c7.2.1 c7.2.2 e11 ?_
        refine er_iconst (v := 1) cx d_Mo_receive_215 rfl (by decide) ?_
        obtain rfl := Option.some.inj h
        exact er_iret rt (Or.inr ⟨rfl, Or.inr rfl⟩) d_Mo_receive_216 (by decide) (by decide) ⟨rfl, rfl, rfl⟩
def f_Mo_receive_145 (T : er_Me) (v0 v1 v2 v3 v4 v5 v6 v7 v8 v9 s0 : Int) (M : er_Me) : Option (Int × er_Me) :=
  if v9 < s0 then
  f_Mo_receive_176 T v0 v1 v2 v3 v4 v5 v6 v7 v8 v9 s0 M
  else
  if T v0 (-2) = 7 ∧ 0 < T v0 7 then
  if T (T v0 7) (-2) = 102 ∧ 0 ≤ v7 ∧ v7 < T (T v0 7) (-1) then
  if M (T v0 7) v7 = 0 then
  (f_Mo_send v0 v1 2 v4 v5 v6 T M).bind fun q5 =>
  f_Mo_receive_176 T v0 v1 v2 v3 v4 v5 v6 v7 v8 v9 s0 q5
  else
  f_Mo_receive_176 T v0 v1 v2 v3 v4 v5 v6 v7 v8 v9 s0 M else none else none
set_option maxHeartbeats 4000000 in
theorem w_Mo_receive_145 {K : er_K} {l : Launch} {X : er_X} (cx : er_Cx K l X b_Mo_receive "EchoedRoundsModel" 11 rm_Mo_receive) {r : Int × er_Me} {T : er_Me} (rt : er_Rt K X b_Mo_receive (some .boolean) 0 0 (some (.inl r.1)) T r.2) : ∀ (v0 v1 v2 v3 v4 v5 v6 v7 v8 v9 s0 : Int) (M : er_Me), f_Mo_receive_145 T v0 v1 v2 v3 v4 v5 v6 v7 v8 v9 s0 M = some r → er_G K 0 0 T M 145 [(0, .inr v0), (1, .inl v1), (2, .inl v2), (3, .inl v3), (4, .inl v4), (5, .inl v5), (6, .inl v6), (7, .inl v7), (8, .inl v8), (9, .inl v9)] [.inl s0] := by
  intro v0 v1 v2 v3 v4 v5 v6 v7 v8 v9 s0 M h
  unfold f_Mo_receive_145 at h
  refine er_istore cx d_Mo_receive_145 (by decide) rfl ?_
  refine er_iload cx d_Mo_receive_147 10 rfl ?_
  refine er_iload cx d_Mo_receive_149 0 rfl ?_
  refine er_ic_lt (tgt := 176) cx d_Mo_receive_151 (by decide) (fun b1 => ?_) (fun b1 => ?_)
  · have h := er_ift h b1
    refine er_sb cx [1, 2, 3, 4, 5, 6, 7, 8, 9, 10, 0] rfl ?_
    exact w_Mo_receive_176 cx rt _ _ _ _ _ _ _ _ _ _ _ _ h
  · have h := er_iff h b1
    refine er_aload_n cx d_Mo_receive_154 1 rfl ?_
    obtain ⟨c2, h⟩ := er_ck h
    refine er_getr cx d_Mo_receive_155 fd_Mo_26 c2.1 c2.2 ?_
    refine er_iload cx d_Mo_receive_158 8 rfl ?_
    obtain ⟨c3, h⟩ := er_ck h
    refine er_zald cx d_Mo_receive_160 c3.1 c3.2.1 c3.2.2 ?_
    refine er_if_ne (tgt := 176) cx d_Mo_receive_161 (by decide) (fun b4 => ?_) (fun b4 => ?_)
    · have h := er_iff h b4
      refine er_sb cx [1, 2, 3, 4, 5, 6, 7, 8, 9, 10, 0] rfl ?_
      exact w_Mo_receive_176 cx rt _ _ _ _ _ _ _ _ _ _ _ _ h
    · have h := er_ift h b4
      refine er_aload_n cx d_Mo_receive_164 1 rfl ?_
      refine er_iload_n cx d_Mo_receive_165 2 rfl ?_
      refine er_iconst (v := 2) cx d_Mo_receive_166 rfl (by decide) ?_
      refine er_iload cx d_Mo_receive_167 5 rfl ?_
      refine er_iload cx d_Mo_receive_169 6 rfl ?_
      refine er_iload cx d_Mo_receive_171 7 rfl ?_
      obtain ⟨q5, e5, h⟩ := er_bd h
      refine er_callV (b := v0) (As := [.inl v1, .inl 2, .inl v4, .inl v5, .inl v6]) (st := []) cx (c_Mo_send e5) my_Mo_74 c2.1 ⟨by decide, by decide⟩ rfl (Nat.le_of_ble_eq_true rfl) d_Mo_receive_173 ⟨Nat.zero_le _, Nat.zero_le _⟩ rfl ?_
      refine er_sb cx [1, 2, 3, 4, 5, 6, 7, 8, 9, 10, 0] rfl ?_
      exact w_Mo_receive_176 cx rt _ _ _ _ _ _ _ _ _ _ _ _ h
def f_Mo_receive (p0 p1 p2 p3 p4 p5 p6 : Int) (T M : er_Me) : Option (Int × er_Me) :=
  (f_Mo_at p1 p4 p5 T M).bind fun q1 =>
  if p3 = 0 then
  if p2 = p5 then
  if T p0 (-2) = 7 ∧ 0 < T p0 6 then
  if T (T p0 6) (-2) = 102 ∧ 0 ≤ q1.1 ∧ q1.1 < T (T p0 6) (-1) then
  if q1.2 (T p0 6) q1.1 = 0 then
  er_le (er_up q1.2 (T p0 6) q1.1 1) fun M21 =>
  (f_Mo_send p0 p1 1 p4 p5 p6 T M21).bind fun q22 =>
  some (1, q22)
  else
  some (0, q1.2) else none else none
  else
  some (0, q1.2)
  else
  er_le (er_add (er_add (er_add (er_mul 126 (er_add (er_mul 7 p1) p2)) (er_mul 63 (er_sub p3 1))) (er_mul 7 p4)) p5) fun x3 =>
  if T p0 (-2) = 7 ∧ 0 < T p0 12 then
  if T (T p0 12) (-2) = 101 ∧ 0 ≤ x3 ∧ x3 < T (T p0 12) (-1) then
  if q1.2 (T p0 12) x3 = 0 then
  er_le (er_up q1.2 (T p0 12) x3 (er_add p6 1)) fun M8 =>
  (f_Mo_count p0 p1 p3 p4 p5 p6 T M8).bind fun q9 =>
  if p3 = 1 then
  f_Mo_receive_145 T p0 p1 p2 p3 p4 p5 p6 q1.1 x3 q9.1 (er_add (er_div (er_add (q9.2 p0 0) (q9.2 p0 1)) 2) 1) q9.2
  else
  f_Mo_receive_145 T p0 p1 p2 p3 p4 p5 p6 q1.1 x3 q9.1 (er_add (q9.2 p0 1) 1) q9.2
  else
  some (0, q1.2) else none else none
set_option maxHeartbeats 4000000 in
theorem w_Mo_receive {K : er_K} {l : Launch} {X : er_X} (cx : er_Cx K l X b_Mo_receive "EchoedRoundsModel" 11 rm_Mo_receive) {r : Int × er_Me} {p0 p1 p2 p3 p4 p5 p6 : Int} {T M : er_Me} (rt : er_Rt K X b_Mo_receive (some .boolean) 0 0 (some (.inl r.1)) T r.2) (h : f_Mo_receive p0 p1 p2 p3 p4 p5 p6 T M = some r) : er_G K 0 0 T M 0 [(0, .inr p0), (1, .inl p1), (2, .inl p2), (3, .inl p3), (4, .inl p4), (5, .inl p5), (6, .inl p6)] [] := by
  unfold f_Mo_receive at h
  refine er_iload_n cx d_Mo_receive_0 1 rfl ?_
  refine er_iload cx d_Mo_receive_1 4 rfl ?_
  refine er_iload cx d_Mo_receive_3 5 rfl ?_
  obtain ⟨q1, e1, h⟩ := er_bd h
  refine er_callS (As := [.inl p1, .inl p4, .inl p5]) (st := []) cx (c_Mo_at e1) my_Mo_70 ⟨by decide, by decide⟩ rfl (Nat.le_of_ble_eq_true rfl) d_Mo_receive_5 ⟨Nat.zero_le _, Nat.zero_le _⟩ rfl ?_
  refine er_istore cx d_Mo_receive_8 (by decide) rfl ?_
  refine er_iload_n cx d_Mo_receive_10 4 rfl ?_
  refine er_if_ne (tgt := 54) cx d_Mo_receive_11 (by decide) (fun b2 => ?_) (fun b2 => ?_)
  · have h := er_iff h b2
    refine er_bipush (v := 126) cx d_Mo_receive_54 (by decide +kernel) (by decide) ?_
    refine er_bipush (v := 7) cx d_Mo_receive_56 (by decide +kernel) (by decide) ?_
    refine er_iload_n cx d_Mo_receive_58 2 rfl ?_
    refine er_imul cx d_Mo_receive_59 ?_
    refine er_iload_n cx d_Mo_receive_60 3 rfl ?_
    refine er_iadd cx d_Mo_receive_61 ?_
    refine er_imul cx d_Mo_receive_62 ?_
    refine er_bipush (v := 63) cx d_Mo_receive_63 (by decide +kernel) (by decide) ?_
    refine er_iload_n cx d_Mo_receive_65 4 rfl ?_
    refine er_iconst (v := 1) cx d_Mo_receive_66 rfl (by decide) ?_
    refine er_isub cx d_Mo_receive_67 ?_
    refine er_imul cx d_Mo_receive_68 ?_
    refine er_iadd cx d_Mo_receive_69 ?_
    refine er_bipush (v := 7) cx d_Mo_receive_70 (by decide +kernel) (by decide) ?_
    refine er_iload cx d_Mo_receive_72 5 rfl ?_
    refine er_imul cx d_Mo_receive_74 ?_
    refine er_iadd cx d_Mo_receive_75 ?_
    refine er_iload cx d_Mo_receive_76 6 rfl ?_
    refine er_iadd cx d_Mo_receive_78 ?_
    obtain ⟨x3, e3, h⟩ := er_lel h
    refine er_nm e3 ?_
    refine er_istore cx d_Mo_receive_79 (by decide) rfl ?_
    refine er_aload_n cx d_Mo_receive_81 2 rfl ?_
    obtain ⟨c4, h⟩ := er_ck h
    refine er_getr cx d_Mo_receive_82 fd_Mo_41 c4.1 c4.2 ?_
    refine er_iload cx d_Mo_receive_85 0 rfl ?_
    obtain ⟨c5, h⟩ := er_ck h
    refine er_iald cx d_Mo_receive_87 c5.1 c5.2.1 c5.2.2 ?_
    refine er_if_eq (tgt := 93) cx d_Mo_receive_88 (by decide) (fun b6 => ?_) (fun b6 => ?_)
    · have h := er_ift h b6
      refine er_aload_n cx d_Mo_receive_93 2 rfl ?_
      refine er_getr cx d_Mo_receive_94 fd_Mo_41 c4.1 c4.2 ?_
      refine er_iload cx d_Mo_receive_97 0 rfl ?_
      refine er_iload cx d_Mo_receive_99 8 rfl ?_
      refine er_iconst (v := 1) cx d_Mo_receive_101 rfl (by decide) ?_
      refine er_iadd cx d_Mo_receive_102 ?_
      obtain ⟨M8, e8, h⟩ := er_lel h
      refine er_iast cx d_Mo_receive_103 c5.1 c5.2.1 c5.2.2 e8 ?_
      refine er_aload_n cx d_Mo_receive_104 2 rfl ?_
      refine er_iload_n cx d_Mo_receive_105 3 rfl ?_
      refine er_iload_n cx d_Mo_receive_106 5 rfl ?_
      refine er_iload cx d_Mo_receive_107 6 rfl ?_
      refine er_iload cx d_Mo_receive_109 7 rfl ?_
      refine er_iload cx d_Mo_receive_111 8 rfl ?_
      obtain ⟨q9, e9, h⟩ := er_bd h
      refine er_callV (b := p0) (As := [.inl p1, .inl p3, .inl p4, .inl p5, .inl p6]) (st := []) cx (c_Mo_count e9) my_Mo_78 c4.1 ⟨by decide, by decide⟩ rfl (Nat.le_of_ble_eq_true rfl) d_Mo_receive_113 ⟨Nat.zero_le _, Nat.zero_le _⟩ rfl ?_
      refine er_istore cx d_Mo_receive_116 (by decide) rfl ?_
      refine er_iload_n cx d_Mo_receive_118 6 rfl ?_
      refine er_iconst (v := 1) cx d_Mo_receive_119 rfl (by decide) ?_
      refine er_ic_ne (tgt := 139) cx d_Mo_receive_120 (by decide) (fun b10 => ?_) (fun b10 => ?_)
      · have h := er_iff h b10
        refine er_aload_n cx d_Mo_receive_139 3 rfl ?_
        refine er_geti cx d_Mo_receive_140 fd_Mo_63 c4.1 ?_
        refine er_iconst (v := 1) cx d_Mo_receive_143 rfl (by decide) ?_
        refine er_iadd cx d_Mo_receive_144 ?_
        refine er_sb cx [3, 4, 5, 6, 7, 8, 9, 2, 1, 0] rfl ?_
        exact w_Mo_receive_145 cx rt _ _ _ _ _ _ _ _ _ _ _ _ h
      · have h := er_ift h b10
        refine er_aload_n cx d_Mo_receive_123 3 rfl ?_
        refine er_geti cx d_Mo_receive_124 fd_Mo_59 c4.1 ?_
        refine er_aload_n cx d_Mo_receive_127 3 rfl ?_
        refine er_geti cx d_Mo_receive_128 fd_Mo_63 c4.1 ?_
        refine er_iadd cx d_Mo_receive_131 ?_
        refine er_iconst (v := 2) cx d_Mo_receive_132 rfl (by decide) ?_
        refine er_idiv cx d_Mo_receive_133 (by decide) ?_
        refine er_iconst (v := 1) cx d_Mo_receive_134 rfl (by decide) ?_
        refine er_iadd cx d_Mo_receive_135 ?_
        refine er_goto (tgt := 145) cx d_Mo_receive_136 (by decide) ?_
        refine er_sb cx [3, 4, 5, 6, 7, 8, 9, 2, 1, 0] rfl ?_
        exact w_Mo_receive_145 cx rt _ _ _ _ _ _ _ _ _ _ _ _ h
    · have h := er_iff h b6
      refine er_iconst (v := 0) cx d_Mo_receive_91 rfl (by decide) ?_
      obtain rfl := Option.some.inj h
      exact er_iret rt (Or.inr ⟨rfl, Or.inl rfl⟩) d_Mo_receive_92 (by decide) (by decide) ⟨rfl, rfl, rfl⟩
  · have h := er_ift h b2
    refine er_iload_n cx d_Mo_receive_14 3 rfl ?_
    refine er_iload cx d_Mo_receive_15 6 rfl ?_
    refine er_ic_ne (tgt := 30) cx d_Mo_receive_17 (by decide) (fun b15 => ?_) (fun b15 => ?_)
    · have h := er_iff h b15
      refine er_iconst (v := 0) cx d_Mo_receive_30 rfl (by decide) ?_
      obtain rfl := Option.some.inj h
      exact er_iret rt (Or.inr ⟨rfl, Or.inl rfl⟩) d_Mo_receive_31 (by decide) (by decide) ⟨rfl, rfl, rfl⟩
    · have h := er_ift h b15
      refine er_aload_n cx d_Mo_receive_20 1 rfl ?_
      obtain ⟨c17, h⟩ := er_ck h
      refine er_getr cx d_Mo_receive_21 fd_Mo_23 c17.1 c17.2 ?_
      refine er_iload cx d_Mo_receive_24 0 rfl ?_
      obtain ⟨c18, h⟩ := er_ck h
      refine er_zald cx d_Mo_receive_26 c18.1 c18.2.1 c18.2.2 ?_
      refine er_if_eq (tgt := 32) cx d_Mo_receive_27 (by decide) (fun b19 => ?_) (fun b19 => ?_)
      · have h := er_ift h b19
        refine er_aload_n cx d_Mo_receive_32 1 rfl ?_
        refine er_getr cx d_Mo_receive_33 fd_Mo_23 c17.1 c17.2 ?_
        refine er_iload cx d_Mo_receive_36 0 rfl ?_
        refine er_iconst (v := 1) cx d_Mo_receive_38 rfl (by decide) ?_
        obtain ⟨M21, e21, h⟩ := er_lel h
        refine er_zast cx d_Mo_receive_39 c18.1 c18.2.1 c18.2.2 (Or.inr rfl) e21 ?_
        refine er_aload_n cx d_Mo_receive_40 1 rfl ?_
        refine er_iload_n cx d_Mo_receive_41 2 rfl ?_
        refine er_iconst (v := 1) cx d_Mo_receive_42 rfl (by decide) ?_
        refine er_iload cx d_Mo_receive_43 5 rfl ?_
        refine er_iload cx d_Mo_receive_45 6 rfl ?_
        refine er_iload cx d_Mo_receive_47 7 rfl ?_
        obtain ⟨q22, e22, h⟩ := er_bd h
        refine er_callV (b := p0) (As := [.inl p1, .inl 1, .inl p4, .inl p5, .inl p6]) (st := []) cx (c_Mo_send e22) my_Mo_74 c17.1 ⟨by decide, by decide⟩ rfl (Nat.le_of_ble_eq_true rfl) d_Mo_receive_49 ⟨Nat.zero_le _, Nat.zero_le _⟩ rfl ?_
        refine er_iconst (v := 1) cx d_Mo_receive_52 rfl (by decide) ?_
        obtain rfl := Option.some.inj h
        exact er_iret rt (Or.inr ⟨rfl, Or.inr rfl⟩) d_Mo_receive_53 (by decide) (by decide) ⟨rfl, rfl, rfl⟩
      · have h := er_iff h b19
        refine er_iconst (v := 0) cx d_Mo_receive_30 rfl (by decide) ?_
        obtain rfl := Option.some.inj h
        exact er_iret rt (Or.inr ⟨rfl, Or.inl rfl⟩) d_Mo_receive_31 (by decide) (by decide) ⟨rfl, rfl, rfl⟩
theorem c_Mo_receive {l : Launch} {X : er_X} {r : Int × er_Me} {p0 p1 p2 p3 p4 p5 p6 : Int} {T M : er_Me} (h : f_Mo_receive p0 p1 p2 p3 p4 p5 p6 T M = some r) (hok : ∀ v ∈ ([.inr p0, .inl p1, .inl p2, .inl p3, .inl p4, .inl p5, .inl p6] : List er_V), er_ok v) : er_Ct l X y_Mo_receive b_Mo_receive 11 (some .boolean) rm_Mo_receive [.inr p0, .inl p1, .inl p2, .inl p3, .inl p4, .inl p5, .inl p6] T M (some (.inl r.1)) T r.2 :=
  er_ct rfl rfl (Nat.le_of_ble_eq_true rfl) hok (fun K cx rt hin => w_Mo_receive cx rt h)
/-! Mo_some -/
abbrev rm_Mo_some : Room := { frames := 2, cells := 0, slots := 0, locals := 49 }
def f_Mo_some_6_b (self : Int → Int → Int → Int → Int → Int → er_Me → Option (Int × er_Me)) (v0 v1 v2 v3 v4 v5 : Int) (T M : er_Me) : Option (Int × er_Me) :=
  if T v0 (-2) = 7 ∧ 0 < T v0 11 then
  if T (T v0 11) (-2) = 101 ∧ 0 ≤ er_add (er_mul 9 v1) v2 ∧ er_add (er_mul 9 v1) v2 < T (T v0 11) (-1) then
  if er_shl 1 (M (T v0 11) (er_add (er_mul 9 v1) v2)) ≤ v5 then
  if v4 = 0 ∨ v4 = 1 then some (v4, M) else none
  else
  if v4 = 0 then
  (f_Mo_setDoes v0 v1 v2 v5 v3 T M).bind fun q7 =>
  if q7.1 = 0 then
  er_le (er_add v5 1) fun x9 =>
  self v0 v1 v2 v3 0 x9 q7.2
  else
  er_le (er_add v5 1) fun x10 =>
  self v0 v1 v2 v3 1 x10 q7.2
  else
  er_le (er_add v5 1) fun x6 =>
  self v0 v1 v2 v3 1 x6 M else none else none
def f_Mo_some_6 : Nat → er_Me → Int → Int → Int → Int → Int → Int → er_Me → Option (Int × er_Me)
  | 0, _ => fun _ _ _ _ _ _ _ => none
  | n + 1, T => fun v0 v1 v2 v3 v4 v5 M => f_Mo_some_6_b (f_Mo_some_6 n T) v0 v1 v2 v3 v4 v5 T M
set_option maxHeartbeats 4000000 in
theorem w_Mo_some_6_b {K : er_K} {l : Launch} {X : er_X} (cx : er_Cx K l X b_Mo_some "EchoedRoundsModel" 6 rm_Mo_some) {r : Int × er_Me} {T : er_Me} (rt : er_Rt K X b_Mo_some (some .boolean) 0 0 (some (.inl r.1)) T r.2) {self : Int → Int → Int → Int → Int → Int → er_Me → Option (Int × er_Me)} (hself : ∀ (v0 v1 v2 v3 v4 v5 : Int) (M : er_Me), self v0 v1 v2 v3 v4 v5 M = some r → er_G K 0 0 T M 6 [(0, .inr v0), (1, .inl v1), (2, .inl v2), (3, .inl v3), (4, .inl v4), (5, .inl v5)] []) : ∀ (v0 v1 v2 v3 v4 v5 : Int) (M : er_Me), f_Mo_some_6_b self v0 v1 v2 v3 v4 v5 T M = some r → er_G K 0 0 T M 6 [(0, .inr v0), (1, .inl v1), (2, .inl v2), (3, .inl v3), (4, .inl v4), (5, .inl v5)] [] := by
  intro v0 v1 v2 v3 v4 v5 M h
  unfold f_Mo_some_6_b at h
  refine er_iload cx d_Mo_some_6 5 rfl ?_
  refine er_iconst (v := 1) cx d_Mo_some_8 rfl (by decide) ?_
  refine er_aload_n cx d_Mo_some_9 0 rfl ?_
  obtain ⟨c1, h⟩ := er_ck h
  refine er_getr cx d_Mo_some_10 fd_Mo_38 c1.1 c1.2 ?_
  refine er_bipush (v := 9) cx d_Mo_some_13 (by decide +kernel) (by decide) ?_
  refine er_iload_n cx d_Mo_some_15 1 rfl ?_
  refine er_imul cx d_Mo_some_16 ?_
  refine er_iload_n cx d_Mo_some_17 2 rfl ?_
  refine er_iadd cx d_Mo_some_18 ?_
  obtain ⟨c2, h⟩ := er_ck h
  refine er_iald cx d_Mo_some_19 c2.1 c2.2.1 c2.2.2 ?_
  refine er_ishl cx d_Mo_some_20 ?_
  refine er_ic_ge (tgt := 54) cx d_Mo_some_21 (by decide) (fun b3 => ?_) (fun b3 => ?_)
  · have h := er_ift h b3
    refine er_iload cx d_Mo_some_54 4 rfl ?_
    obtain ⟨c4, h⟩ := er_ck h
    obtain rfl := Option.some.inj h
    exact er_iret rt (Or.inr ⟨rfl, c4⟩) d_Mo_some_56 (by decide) (by decide) ⟨rfl, rfl, rfl⟩
  · have h := er_iff h b3
    refine er_iload cx d_Mo_some_24 4 rfl ?_
    refine er_if_ne (tgt := 41) cx d_Mo_some_26 (by decide) (fun b5 => ?_) (fun b5 => ?_)
    · have h := er_iff h b5
      refine er_iconst (v := 1) cx d_Mo_some_41 rfl (by decide) ?_
      refine er_goto (tgt := 46) cx d_Mo_some_42 (by decide) ?_
      refine er_istore cx d_Mo_some_46 (by decide) rfl ?_
      obtain ⟨x6, e6, h⟩ := er_lel h
      refine er_iinc cx d_Mo_some_48 (k := 5) rfl (by decide) e6 rfl ?_
      refine er_goto (tgt := 6) cx d_Mo_some_51 (by decide) ?_
      refine er_sb cx [2, 3, 4, 5, 1, 0] rfl ?_
      exact hself _ _ _ _ _ _ _ h
    · have h := er_ift h b5
      refine er_aload_n cx d_Mo_some_29 0 rfl ?_
      refine er_iload_n cx d_Mo_some_30 1 rfl ?_
      refine er_iload_n cx d_Mo_some_31 2 rfl ?_
      refine er_iload cx d_Mo_some_32 5 rfl ?_
      refine er_iload_n cx d_Mo_some_34 3 rfl ?_
      obtain ⟨q7, e7, h⟩ := er_bd h
      refine er_callV (b := v0) (As := [.inl v1, .inl v2, .inl v5, .inl v3]) (st := []) cx (c_Mo_setDoes e7) my_Mo_86 c1.1 ⟨by decide, by decide⟩ rfl (Nat.le_of_ble_eq_true rfl) d_Mo_some_35 ⟨Nat.zero_le _, Nat.zero_le _⟩ rfl ?_
      refine er_if_eq (tgt := 45) cx d_Mo_some_38 (by decide) (fun b8 => ?_) (fun b8 => ?_)
      · have h := er_ift h b8
        refine er_iconst (v := 0) cx d_Mo_some_45 rfl (by decide) ?_
        refine er_istore cx d_Mo_some_46 (by decide) rfl ?_
        obtain ⟨x9, e9, h⟩ := er_lel h
        refine er_iinc cx d_Mo_some_48 (k := 5) rfl (by decide) e9 rfl ?_
        refine er_goto (tgt := 6) cx d_Mo_some_51 (by decide) ?_
        refine er_sb cx [2, 3, 4, 5, 1, 0] rfl ?_
        exact hself _ _ _ _ _ _ _ h
      · have h := er_iff h b8
        refine er_iconst (v := 1) cx d_Mo_some_41 rfl (by decide) ?_
        refine er_goto (tgt := 46) cx d_Mo_some_42 (by decide) ?_
        refine er_istore cx d_Mo_some_46 (by decide) rfl ?_
        obtain ⟨x10, e10, h⟩ := er_lel h
        refine er_iinc cx d_Mo_some_48 (k := 5) rfl (by decide) e10 rfl ?_
        refine er_goto (tgt := 6) cx d_Mo_some_51 (by decide) ?_
        refine er_sb cx [2, 3, 4, 5, 1, 0] rfl ?_
        exact hself _ _ _ _ _ _ _ h
theorem w_Mo_some_6 {K : er_K} {l : Launch} {X : er_X} (cx : er_Cx K l X b_Mo_some "EchoedRoundsModel" 6 rm_Mo_some) {r : Int × er_Me} {T : er_Me} (rt : er_Rt K X b_Mo_some (some .boolean) 0 0 (some (.inl r.1)) T r.2) : ∀ n : Nat, ∀ (v0 v1 v2 v3 v4 v5 : Int) (M : er_Me), f_Mo_some_6 n T v0 v1 v2 v3 v4 v5 M = some r → er_G K 0 0 T M 6 [(0, .inr v0), (1, .inl v1), (2, .inl v2), (3, .inl v3), (4, .inl v4), (5, .inl v5)] [] := by
  intro n
  induction n with
  | zero =>
    intro v0 v1 v2 v3 v4 v5 M h
    cases h
  | succ n ih =>
    intro v0 v1 v2 v3 v4 v5 M h
    exact w_Mo_some_6_b cx rt ih v0 v1 v2 v3 v4 v5 M h
def f_Mo_some (p0 p1 p2 p3 : Int) (T M : er_Me) : Option (Int × er_Me) :=
  f_Mo_some_6 er_fu T p0 p1 p2 p3 0 0 M
set_option maxHeartbeats 4000000 in
theorem w_Mo_some {K : er_K} {l : Launch} {X : er_X} (cx : er_Cx K l X b_Mo_some "EchoedRoundsModel" 6 rm_Mo_some) {r : Int × er_Me} {p0 p1 p2 p3 : Int} {T M : er_Me} (rt : er_Rt K X b_Mo_some (some .boolean) 0 0 (some (.inl r.1)) T r.2) (h : f_Mo_some p0 p1 p2 p3 T M = some r) : er_G K 0 0 T M 0 [(0, .inr p0), (1, .inl p1), (2, .inl p2), (3, .inl p3)] [] := by
  unfold f_Mo_some at h
  refine er_iconst (v := 0) cx d_Mo_some_0 rfl (by decide) ?_
  refine er_istore cx d_Mo_some_1 (by decide) rfl ?_
  refine er_iconst (v := 0) cx d_Mo_some_3 rfl (by decide) ?_
  refine er_istore cx d_Mo_some_4 (by decide) rfl ?_
  refine er_sb cx [2, 3, 4, 5, 1, 0] rfl ?_
  exact w_Mo_some_6 cx rt er_fu _ _ _ _ _ _ _ h
theorem c_Mo_some {l : Launch} {X : er_X} {r : Int × er_Me} {p0 p1 p2 p3 : Int} {T M : er_Me} (h : f_Mo_some p0 p1 p2 p3 T M = some r) (hok : ∀ v ∈ ([.inr p0, .inl p1, .inl p2, .inl p3] : List er_V), er_ok v) : er_Ct l X y_Mo_some b_Mo_some 6 (some .boolean) rm_Mo_some [.inr p0, .inl p1, .inl p2, .inl p3] T M (some (.inl r.1)) T r.2 :=
  er_ct rfl rfl (Nat.le_of_ble_eq_true rfl) hok (fun K cx rt hin => w_Mo_some cx rt h)
/-! Mo_goOn -/
abbrev rm_Mo_goOn : Room := { frames := 2, cells := 0, slots := 0, locals := 47 }
def f_Mo_goOn_231 (T : er_Me) (v0 v1 v2 v3 v4 : Int) (M : er_Me) : Option (Int × er_Me) :=
  if T v0 (-2) = 7 ∧ 0 < T v0 13 then
  if T (T v0 13) (-2) = 101 ∧ 0 ≤ v1 ∧ v1 < T (T v0 13) (-1) then
  er_le (er_up M (T v0 13) v1 (er_add v2 1)) fun M2 =>
  if 8 ≤ v2 then
  some (1, M2)
  else
  if 0 < T v0 14 then
  if T (T v0 14) (-2) = 101 ∧ v1 < T (T v0 14) (-1) then
  (f_Mo_send v0 v1 0 (er_add v2 1) v1 (M2 (T v0 14) v1) T M2).bind fun q7 =>
  some (1, q7) else none else none else none else none
set_option maxHeartbeats 4000000 in
theorem w_Mo_goOn_231 {K : er_K} {l : Launch} {X : er_X} (cx : er_Cx K l X b_Mo_goOn "EchoedRoundsModel" 6 rm_Mo_goOn) {r : Int × er_Me} {T : er_Me} (rt : er_Rt K X b_Mo_goOn (some .boolean) 0 0 (some (.inl r.1)) T r.2) : ∀ (v0 v1 v2 v3 v4 : Int) (M : er_Me), f_Mo_goOn_231 T v0 v1 v2 v3 v4 M = some r → er_G K 0 0 T M 231 [(0, .inr v0), (1, .inl v1), (2, .inl v2), (3, .inl v3), (4, .inl v4)] [] := by
  intro v0 v1 v2 v3 v4 M h
  unfold f_Mo_goOn_231 at h
  refine er_aload_n cx d_Mo_goOn_231 0 rfl ?_
  obtain ⟨c1, h⟩ := er_ck h
  refine er_getr cx d_Mo_goOn_232 fd_Mo_44 c1.1 c1.2 ?_
  refine er_iload_n cx d_Mo_goOn_235 1 rfl ?_
  refine er_iload_n cx d_Mo_goOn_236 2 rfl ?_
  refine er_iconst (v := 1) cx d_Mo_goOn_237 rfl (by decide) ?_
  refine er_iadd cx d_Mo_goOn_238 ?_
  obtain ⟨c2, h⟩ := er_ck h
  obtain ⟨M2, e2, h⟩ := er_lel h
  refine er_iast cx d_Mo_goOn_239 c2.1 c2.2.1 c2.2.2 e2 ?_
  refine er_iload_n cx d_Mo_goOn_240 2 rfl ?_
  refine er_bipush (v := 8) cx d_Mo_goOn_241 (by decide +kernel) (by decide) ?_
  refine er_ic_ge (tgt := 262) cx d_Mo_goOn_243 (by decide) (fun b3 => ?_) (fun b3 => ?_)
  · have h := er_ift h b3
    refine er_iconst (v := 1) cx d_Mo_goOn_262 rfl (by decide) ?_
    obtain rfl := Option.some.inj h
    exact er_iret rt (Or.inr ⟨rfl, Or.inr rfl⟩) d_Mo_goOn_263 (by decide) (by decide) ⟨rfl, rfl, rfl⟩
  · have h := er_iff h b3
    refine er_aload_n cx d_Mo_goOn_246 0 rfl ?_
    refine er_iload_n cx d_Mo_goOn_247 1 rfl ?_
    refine er_iconst (v := 0) cx d_Mo_goOn_248 rfl (by decide) ?_
    refine er_iload_n cx d_Mo_goOn_249 2 rfl ?_
    refine er_iconst (v := 1) cx d_Mo_goOn_250 rfl (by decide) ?_
    refine er_iadd cx d_Mo_goOn_251 ?_
    refine er_iload_n cx d_Mo_goOn_252 1 rfl ?_
    refine er_aload_n cx d_Mo_goOn_253 0 rfl ?_
    obtain ⟨c5, h⟩ := er_ck h
    refine er_getr cx d_Mo_goOn_254 fd_Mo_47 c1.1 c5 ?_
    refine er_iload_n cx d_Mo_goOn_257 1 rfl ?_
    obtain ⟨c6, h⟩ := er_ck h
    refine er_iald cx d_Mo_goOn_258 c6.1 c2.2.1 c6.2 ?_
    obtain ⟨q7, e7, h⟩ := er_bd h
    refine er_callV (b := v0) (As := [.inl v1, .inl 0, .inl (er_add v2 1), .inl v1, .inl (M2 (T v0 14) v1)]) (st := []) cx (c_Mo_send e7) my_Mo_74 c1.1 ⟨by decide, by decide⟩ rfl (Nat.le_of_ble_eq_true rfl) d_Mo_goOn_259 ⟨Nat.zero_le _, Nat.zero_le _⟩ rfl ?_
    refine er_iconst (v := 1) cx d_Mo_goOn_262 rfl (by decide) ?_
    obtain rfl := Option.some.inj h
    exact er_iret rt (Or.inr ⟨rfl, Or.inr rfl⟩) d_Mo_goOn_263 (by decide) (by decide) ⟨rfl, rfl, rfl⟩
def f_Mo_goOn_155 (T : er_Me) (v0 v1 v2 v3 v4 s0 s1 s2 : Int) (M : er_Me) : Option (Int × er_Me) :=
  if T s0 (-2) = 101 ∧ 0 ≤ s1 ∧ s1 < T s0 (-1) then
  er_le (er_up M s0 s1 s2) fun M1 =>
  f_Mo_goOn_231 T v0 v1 v2 v3 v4 M1 else none
set_option maxHeartbeats 4000000 in
theorem w_Mo_goOn_155 {K : er_K} {l : Launch} {X : er_X} (cx : er_Cx K l X b_Mo_goOn "EchoedRoundsModel" 6 rm_Mo_goOn) {r : Int × er_Me} {T : er_Me} (rt : er_Rt K X b_Mo_goOn (some .boolean) 0 0 (some (.inl r.1)) T r.2) : ∀ (v0 v1 v2 v3 v4 s0 s1 s2 : Int) (M : er_Me), f_Mo_goOn_155 T v0 v1 v2 v3 v4 s0 s1 s2 M = some r → er_G K 0 0 T M 155 [(0, .inr v0), (1, .inl v1), (2, .inl v2), (3, .inl v3), (4, .inl v4)] [.inl s2, .inl s1, .inr s0] := by
  intro v0 v1 v2 v3 v4 s0 s1 s2 M h
  unfold f_Mo_goOn_155 at h
  obtain ⟨c1, h⟩ := er_ck h
  obtain ⟨M1, e1, h⟩ := er_lel h
  refine er_iast cx d_Mo_goOn_155 c1.1 c1.2.1 c1.2.2 e1 ?_
  refine er_goto (tgt := 231) cx d_Mo_goOn_156 (by decide) ?_
  exact w_Mo_goOn_231 cx rt _ _ _ _ _ _ h
def f_Mo_goOn_215 (T : er_Me) (v0 v1 v2 v3 v4 s0 s1 s2 : Int) (M : er_Me) : Option (Int × er_Me) :=
  if T s0 (-2) = 101 ∧ 0 ≤ s1 ∧ s1 < T s0 (-1) then
  er_le (er_up M s0 s1 s2) fun M1 =>
  f_Mo_goOn_231 T v0 v1 v2 v3 v4 M1 else none
set_option maxHeartbeats 4000000 in
theorem w_Mo_goOn_215 {K : er_K} {l : Launch} {X : er_X} (cx : er_Cx K l X b_Mo_goOn "EchoedRoundsModel" 6 rm_Mo_goOn) {r : Int × er_Me} {T : er_Me} (rt : er_Rt K X b_Mo_goOn (some .boolean) 0 0 (some (.inl r.1)) T r.2) : ∀ (v0 v1 v2 v3 v4 s0 s1 s2 : Int) (M : er_Me), f_Mo_goOn_215 T v0 v1 v2 v3 v4 s0 s1 s2 M = some r → er_G K 0 0 T M 215 [(0, .inr v0), (1, .inl v1), (2, .inl v2), (3, .inl v3), (4, .inl v4)] [.inl s2, .inl s1, .inr s0] := by
  intro v0 v1 v2 v3 v4 s0 s1 s2 M h
  unfold f_Mo_goOn_215 at h
  obtain ⟨c1, h⟩ := er_ck h
  obtain ⟨M1, e1, h⟩ := er_lel h
  refine er_iast cx d_Mo_goOn_215 c1.1 c1.2.1 c1.2.2 e1 ?_
  refine er_goto (tgt := 231) cx d_Mo_goOn_216 (by decide) ?_
  exact w_Mo_goOn_231 cx rt _ _ _ _ _ _ h
def f_Mo_goOn_70_b (self : Int → Int → Int → Int → Int → er_Me → Option (Int × er_Me)) (v0 v1 v2 v3 v4 : Int) (T M : er_Me) : Option (Int × er_Me) :=
  if v3 ≤ v4 then
  if er_rem v2 3 = 0 then
  if T v0 (-2) = 7 ∧ 0 < T v0 14 then
  if 0 < T v0 17 then
  if T (T v0 17) (-2) = 101 ∧ 1 < T (T v0 17) (-1) then
  if 0 < T (T v0 17) (-1) then
  if M (T v0 17) 1 ≤ M (T v0 17) 0 then
  f_Mo_goOn_155 T v0 v1 v2 v3 v4 (T v0 14) v1 0 M
  else
  f_Mo_goOn_155 T v0 v1 v2 v3 v4 (T v0 14) v1 1 M else none else none else none else none
  else
  if er_rem v2 3 = 1 then
  if T v0 (-2) = 7 ∧ 0 < T v0 14 then
  if 0 < T v0 17 then
  if T (T v0 17) (-2) = 101 ∧ 0 < T (T v0 17) (-1) then
  if er_mul 2 (M (T v0 17) 0) ≤ M v0 0 then
  if 1 < T (T v0 17) (-1) then
  if er_mul 2 (M (T v0 17) 1) ≤ M v0 0 then
  if T (T v0 14) (-2) = 101 ∧ 0 ≤ v1 ∧ v1 < T (T v0 14) (-1) then
  f_Mo_goOn_215 T v0 v1 v2 v3 v4 (T v0 14) v1 (M (T v0 14) v1) M else none
  else
  f_Mo_goOn_215 T v0 v1 v2 v3 v4 (T v0 14) v1 3 M else none
  else
  f_Mo_goOn_215 T v0 v1 v2 v3 v4 (T v0 14) v1 2 M else none else none else none
  else
  if T v0 (-2) = 7 ∧ 0 < T v0 14 then
  (f_Mo_afterFirm v0 v1 v2 T M).bind fun q5 =>
  if T (T v0 14) (-2) = 101 ∧ 0 ≤ v1 ∧ v1 < T (T v0 14) (-1) then
  er_le (er_up q5.2 (T v0 14) v1 q5.1) fun M6 =>
  f_Mo_goOn_231 T v0 v1 v2 v3 v4 M6 else none else none
  else
  if T v0 (-2) = 7 ∧ 0 < T v0 8 then
  if 0 < T v0 10 then
  (f_Mo_at v1 v2 v4 T M).bind fun q26 =>
  if T (T v0 10) (-2) = 101 ∧ 0 ≤ q26.1 ∧ q26.1 < T (T v0 10) (-1) then
  (f_Mo_at v1 v2 (q26.2 (T v0 10) q26.1) T q26.2).bind fun q28 =>
  if T (T v0 8) (-2) = 101 ∧ 0 ≤ q28.1 ∧ q28.1 < T (T v0 8) (-1) then
  er_le (er_sub (q28.2 (T v0 8) q28.1) 1) fun x30 =>
  if 0 < T v0 17 then
  if T (T v0 17) (-2) = 101 ∧ 0 ≤ x30 ∧ x30 < T (T v0 17) (-1) then
  er_le (er_up q28.2 (T v0 17) x30 (er_add (q28.2 (T v0 17) x30) 1)) fun M34 =>
  er_le (er_add v4 1) fun x35 =>
  self v0 v1 v2 v3 x35 M34 else none else none else none else none else none else none
def f_Mo_goOn_70 : Nat → er_Me → Int → Int → Int → Int → Int → er_Me → Option (Int × er_Me)
  | 0, _ => fun _ _ _ _ _ _ => none
  | n + 1, T => fun v0 v1 v2 v3 v4 M => f_Mo_goOn_70_b (f_Mo_goOn_70 n T) v0 v1 v2 v3 v4 T M
set_option maxHeartbeats 4000000 in
theorem w_Mo_goOn_70_b {K : er_K} {l : Launch} {X : er_X} (cx : er_Cx K l X b_Mo_goOn "EchoedRoundsModel" 6 rm_Mo_goOn) {r : Int × er_Me} {T : er_Me} (rt : er_Rt K X b_Mo_goOn (some .boolean) 0 0 (some (.inl r.1)) T r.2) {self : Int → Int → Int → Int → Int → er_Me → Option (Int × er_Me)} (hself : ∀ (v0 v1 v2 v3 v4 : Int) (M : er_Me), self v0 v1 v2 v3 v4 M = some r → er_G K 0 0 T M 70 [(0, .inr v0), (1, .inl v1), (2, .inl v2), (3, .inl v3), (4, .inl v4)] []) : ∀ (v0 v1 v2 v3 v4 : Int) (M : er_Me), f_Mo_goOn_70_b self v0 v1 v2 v3 v4 T M = some r → er_G K 0 0 T M 70 [(0, .inr v0), (1, .inl v1), (2, .inl v2), (3, .inl v3), (4, .inl v4)] [] := by
  intro v0 v1 v2 v3 v4 M h
  unfold f_Mo_goOn_70_b at h
  refine er_iload cx d_Mo_goOn_70 4 rfl ?_
  refine er_iload_n cx d_Mo_goOn_72 3 rfl ?_
  refine er_ic_ge (tgt := 124) cx d_Mo_goOn_73 (by decide) (fun b1 => ?_) (fun b1 => ?_)
  · have h := er_ift h b1
    refine er_iload_n cx d_Mo_goOn_124 2 rfl ?_
    refine er_iconst (v := 3) cx d_Mo_goOn_125 rfl (by decide) ?_
    refine er_irem cx d_Mo_goOn_126 (by decide) ?_
    refine er_if_ne (tgt := 159) cx d_Mo_goOn_127 (by decide) (fun b2 => ?_) (fun b2 => ?_)
    · have h := er_iff h b2
      refine er_iload_n cx d_Mo_goOn_159 2 rfl ?_
      refine er_iconst (v := 3) cx d_Mo_goOn_160 rfl (by decide) ?_
      refine er_irem cx d_Mo_goOn_161 (by decide) ?_
      refine er_iconst (v := 1) cx d_Mo_goOn_162 rfl (by decide) ?_
      refine er_ic_ne (tgt := 219) cx d_Mo_goOn_163 (by decide) (fun b3 => ?_) (fun b3 => ?_)
      · have h := er_iff h b3
        refine er_aload_n cx d_Mo_goOn_219 0 rfl ?_
        obtain ⟨c4, h⟩ := er_ck h
        refine er_getr cx d_Mo_goOn_220 fd_Mo_47 c4.1 c4.2 ?_
        refine er_iload_n cx d_Mo_goOn_223 1 rfl ?_
        refine er_aload_n cx d_Mo_goOn_224 0 rfl ?_
        refine er_iload_n cx d_Mo_goOn_225 1 rfl ?_
        refine er_iload_n cx d_Mo_goOn_226 2 rfl ?_
        obtain ⟨q5, e5, h⟩ := er_bd h
        refine er_callV (b := v0) (As := [.inl v1, .inl v2]) (st := [.inl v1, .inr (T v0 14)]) cx (c_Mo_afterFirm e5) my_Mo_101 c4.1 ⟨by decide, by decide⟩ rfl (Nat.le_of_ble_eq_true rfl) d_Mo_goOn_227 ⟨Nat.zero_le _, Nat.zero_le _⟩ rfl ?_
        obtain ⟨c6, h⟩ := er_ck h
        obtain ⟨M6, e6, h⟩ := er_lel h
        refine er_iast cx d_Mo_goOn_230 c6.1 c6.2.1 c6.2.2 e6 ?_
        exact w_Mo_goOn_231 cx rt _ _ _ _ _ _ h
      · have h := er_ift h b3
        refine er_aload_n cx d_Mo_goOn_166 0 rfl ?_
        obtain ⟨c7, h⟩ := er_ck h
        refine er_getr cx d_Mo_goOn_167 fd_Mo_47 c7.1 c7.2 ?_
        refine er_iload_n cx d_Mo_goOn_170 1 rfl ?_
        refine er_iconst (v := 2) cx d_Mo_goOn_171 rfl (by decide) ?_
        refine er_aload_n cx d_Mo_goOn_172 0 rfl ?_
        obtain ⟨c8, h⟩ := er_ck h
        refine er_getr cx d_Mo_goOn_173 fd_Mo_56 c7.1 c8 ?_
        refine er_iconst (v := 0) cx d_Mo_goOn_176 rfl (by decide) ?_
        obtain ⟨c9, h⟩ := er_ck h
        refine er_iald cx d_Mo_goOn_177 c9.1 (by decide) c9.2 ?_
        refine er_imul cx d_Mo_goOn_178 ?_
        refine er_aload_n cx d_Mo_goOn_179 0 rfl ?_
        refine er_geti cx d_Mo_goOn_180 fd_Mo_59 c7.1 ?_
        refine er_ic_le (tgt := 190) cx d_Mo_goOn_183 (by decide) (fun b11 => ?_) (fun b11 => ?_)
        · have h := er_ift h b11
          refine er_iconst (v := 2) cx d_Mo_goOn_190 rfl (by decide) ?_
          refine er_aload_n cx d_Mo_goOn_191 0 rfl ?_
          refine er_getr cx d_Mo_goOn_192 fd_Mo_56 c7.1 c8 ?_
          refine er_iconst (v := 1) cx d_Mo_goOn_195 rfl (by decide) ?_
          obtain ⟨c13, h⟩ := er_ck h
          refine er_iald cx d_Mo_goOn_196 c9.1 (by decide) c13 ?_
          refine er_imul cx d_Mo_goOn_197 ?_
          refine er_aload_n cx d_Mo_goOn_198 0 rfl ?_
          refine er_geti cx d_Mo_goOn_199 fd_Mo_59 c7.1 ?_
          refine er_ic_le (tgt := 209) cx d_Mo_goOn_202 (by decide) (fun b15 => ?_) (fun b15 => ?_)
          · have h := er_ift h b15
            refine er_aload_n cx d_Mo_goOn_209 0 rfl ?_
            refine er_getr cx d_Mo_goOn_210 fd_Mo_47 c7.1 c7.2 ?_
            refine er_iload_n cx d_Mo_goOn_213 1 rfl ?_
            obtain ⟨c17, h⟩ := er_ck h
            refine er_iald cx d_Mo_goOn_214 c17.1 c17.2.1 c17.2.2 ?_
            exact w_Mo_goOn_215 cx rt _ _ _ _ _ _ _ _ _ h
          · have h := er_iff h b15
            refine er_iconst (v := 3) cx d_Mo_goOn_205 rfl (by decide) ?_
            refine er_goto (tgt := 215) cx d_Mo_goOn_206 (by decide) ?_
            exact w_Mo_goOn_215 cx rt _ _ _ _ _ _ _ _ _ h
        · have h := er_iff h b11
          refine er_iconst (v := 2) cx d_Mo_goOn_186 rfl (by decide) ?_
          refine er_goto (tgt := 215) cx d_Mo_goOn_187 (by decide) ?_
          exact w_Mo_goOn_215 cx rt _ _ _ _ _ _ _ _ _ h
    · have h := er_ift h b2
      refine er_aload_n cx d_Mo_goOn_130 0 rfl ?_
      obtain ⟨c18, h⟩ := er_ck h
      refine er_getr cx d_Mo_goOn_131 fd_Mo_47 c18.1 c18.2 ?_
      refine er_iload_n cx d_Mo_goOn_134 1 rfl ?_
      refine er_aload_n cx d_Mo_goOn_135 0 rfl ?_
      obtain ⟨c19, h⟩ := er_ck h
      refine er_getr cx d_Mo_goOn_136 fd_Mo_56 c18.1 c19 ?_
      refine er_iconst (v := 1) cx d_Mo_goOn_139 rfl (by decide) ?_
      obtain ⟨c20, h⟩ := er_ck h
      refine er_iald cx d_Mo_goOn_140 c20.1 (by decide) c20.2 ?_
      refine er_aload_n cx d_Mo_goOn_141 0 rfl ?_
      refine er_getr cx d_Mo_goOn_142 fd_Mo_56 c18.1 c19 ?_
      refine er_iconst (v := 0) cx d_Mo_goOn_145 rfl (by decide) ?_
      obtain ⟨c22, h⟩ := er_ck h
      refine er_iald cx d_Mo_goOn_146 c20.1 (by decide) c22 ?_
      refine er_ic_le (tgt := 154) cx d_Mo_goOn_147 (by decide) (fun b23 => ?_) (fun b23 => ?_)
      · have h := er_ift h b23
        refine er_iconst (v := 0) cx d_Mo_goOn_154 rfl (by decide) ?_
        exact w_Mo_goOn_155 cx rt _ _ _ _ _ _ _ _ _ h
      · have h := er_iff h b23
        refine er_iconst (v := 1) cx d_Mo_goOn_150 rfl (by decide) ?_
        refine er_goto (tgt := 155) cx d_Mo_goOn_151 (by decide) ?_
        exact w_Mo_goOn_155 cx rt _ _ _ _ _ _ _ _ _ h
  · have h := er_iff h b1
    refine er_aload_n cx d_Mo_goOn_76 0 rfl ?_
    obtain ⟨c24, h⟩ := er_ck h
    refine er_getr cx d_Mo_goOn_77 fd_Mo_29 c24.1 c24.2 ?_
    refine er_iload_n cx d_Mo_goOn_80 1 rfl ?_
    refine er_iload_n cx d_Mo_goOn_81 2 rfl ?_
    refine er_aload_n cx d_Mo_goOn_82 0 rfl ?_
    obtain ⟨c25, h⟩ := er_ck h
    refine er_getr cx d_Mo_goOn_83 fd_Mo_35 c24.1 c25 ?_
    refine er_iload_n cx d_Mo_goOn_86 1 rfl ?_
    refine er_iload_n cx d_Mo_goOn_87 2 rfl ?_
    refine er_iload cx d_Mo_goOn_88 4 rfl ?_
    obtain ⟨q26, e26, h⟩ := er_bd h
    refine er_callS (As := [.inl v1, .inl v2, .inl v4]) (st := [.inr (T v0 10), .inl v2, .inl v1, .inr (T v0 8)]) cx (c_Mo_at e26) my_Mo_70 ⟨by decide, by decide⟩ rfl (Nat.le_of_ble_eq_true rfl) d_Mo_goOn_90 ⟨Nat.zero_le _, Nat.zero_le _⟩ rfl ?_
    obtain ⟨c27, h⟩ := er_ck h
    refine er_iald cx d_Mo_goOn_93 c27.1 c27.2.1 c27.2.2 ?_
    obtain ⟨q28, e28, h⟩ := er_bd h
    refine er_callS (As := [.inl v1, .inl v2, .inl (q26.2 (T v0 10) q26.1)]) (st := [.inr (T v0 8)]) cx (c_Mo_at e28) my_Mo_70 ⟨by decide, by decide⟩ rfl (Nat.le_of_ble_eq_true rfl) d_Mo_goOn_94 ⟨Nat.zero_le _, Nat.zero_le _⟩ rfl ?_
    obtain ⟨c29, h⟩ := er_ck h
    refine er_iald cx d_Mo_goOn_97 c29.1 c29.2.1 c29.2.2 ?_
    refine er_iconst (v := 1) cx d_Mo_goOn_98 rfl (by decide) ?_
    refine er_isub cx d_Mo_goOn_99 ?_
    obtain ⟨x30, e30, h⟩ := er_lel h
    refine er_nm e30 ?_
    refine er_istore cx d_Mo_goOn_100 (by decide) rfl ?_
    refine er_aload_n cx d_Mo_goOn_102 1 rfl ?_
    obtain ⟨c31, h⟩ := er_ck h
    refine er_getr cx d_Mo_goOn_103 fd_Mo_56 c24.1 c31 ?_
    refine er_iload cx d_Mo_goOn_106 0 rfl ?_
    refine er_aload_n cx d_Mo_goOn_108 1 rfl ?_
    refine er_getr cx d_Mo_goOn_109 fd_Mo_56 c24.1 c31 ?_
    refine er_iload cx d_Mo_goOn_112 0 rfl ?_
    obtain ⟨c33, h⟩ := er_ck h
    refine er_iald cx d_Mo_goOn_114 c33.1 c33.2.1 c33.2.2 ?_
    refine er_iconst (v := 1) cx d_Mo_goOn_115 rfl (by decide) ?_
    refine er_iadd cx d_Mo_goOn_116 ?_
    obtain ⟨M34, e34, h⟩ := er_lel h
    refine er_iast cx d_Mo_goOn_117 c33.1 c33.2.1 c33.2.2 e34 ?_
    obtain ⟨x35, e35, h⟩ := er_lel h
    refine er_iinc cx d_Mo_goOn_118 (k := 5) rfl (by decide) e35 rfl ?_
    refine er_goto (tgt := 70) cx d_Mo_goOn_121 (by decide) ?_
    refine er_sb cx [2, 3, 4, 5, 0] rfl ?_
    exact hself _ _ _ _ _ _ h
theorem w_Mo_goOn_70 {K : er_K} {l : Launch} {X : er_X} (cx : er_Cx K l X b_Mo_goOn "EchoedRoundsModel" 6 rm_Mo_goOn) {r : Int × er_Me} {T : er_Me} (rt : er_Rt K X b_Mo_goOn (some .boolean) 0 0 (some (.inl r.1)) T r.2) : ∀ n : Nat, ∀ (v0 v1 v2 v3 v4 : Int) (M : er_Me), f_Mo_goOn_70 n T v0 v1 v2 v3 v4 M = some r → er_G K 0 0 T M 70 [(0, .inr v0), (1, .inl v1), (2, .inl v2), (3, .inl v3), (4, .inl v4)] [] := by
  intro n
  induction n with
  | zero =>
    intro v0 v1 v2 v3 v4 M h
    cases h
  | succ n ih =>
    intro v0 v1 v2 v3 v4 M h
    exact w_Mo_goOn_70_b cx rt ih v0 v1 v2 v3 v4 M h
def f_Mo_goOn_47_b (self : Int → Int → Int → Int → Int → er_Me → Option (Int × er_Me)) (v0 v1 v2 v3 v4 : Int) (T M : er_Me) : Option (Int × er_Me) :=
  if 4 ≤ v4 then
  f_Mo_goOn_70 er_fu T v0 v1 v2 v3 0 M
  else
  if T v0 (-2) = 7 ∧ 0 < T v0 17 then
  if T (T v0 17) (-2) = 101 ∧ 0 ≤ v4 ∧ v4 < T (T v0 17) (-1) then
  er_le (er_up M (T v0 17) v4 0) fun M3 =>
  er_le (er_add v4 1) fun x4 =>
  self v0 v1 v2 v3 x4 M3 else none else none
def f_Mo_goOn_47 : Nat → er_Me → Int → Int → Int → Int → Int → er_Me → Option (Int × er_Me)
  | 0, _ => fun _ _ _ _ _ _ => none
  | n + 1, T => fun v0 v1 v2 v3 v4 M => f_Mo_goOn_47_b (f_Mo_goOn_47 n T) v0 v1 v2 v3 v4 T M
set_option maxHeartbeats 4000000 in
theorem w_Mo_goOn_47_b {K : er_K} {l : Launch} {X : er_X} (cx : er_Cx K l X b_Mo_goOn "EchoedRoundsModel" 6 rm_Mo_goOn) {r : Int × er_Me} {T : er_Me} (rt : er_Rt K X b_Mo_goOn (some .boolean) 0 0 (some (.inl r.1)) T r.2) {self : Int → Int → Int → Int → Int → er_Me → Option (Int × er_Me)} (hself : ∀ (v0 v1 v2 v3 v4 : Int) (M : er_Me), self v0 v1 v2 v3 v4 M = some r → er_G K 0 0 T M 47 [(0, .inr v0), (1, .inl v1), (2, .inl v2), (3, .inl v3), (4, .inl v4)] []) : ∀ (v0 v1 v2 v3 v4 : Int) (M : er_Me), f_Mo_goOn_47_b self v0 v1 v2 v3 v4 T M = some r → er_G K 0 0 T M 47 [(0, .inr v0), (1, .inl v1), (2, .inl v2), (3, .inl v3), (4, .inl v4)] [] := by
  intro v0 v1 v2 v3 v4 M h
  unfold f_Mo_goOn_47_b at h
  refine er_iload cx d_Mo_goOn_47 4 rfl ?_
  refine er_iconst (v := 4) cx d_Mo_goOn_49 rfl (by decide) ?_
  refine er_ic_ge (tgt := 67) cx d_Mo_goOn_50 (by decide) (fun b1 => ?_) (fun b1 => ?_)
  · have h := er_ift h b1
    refine er_iconst (v := 0) cx d_Mo_goOn_67 rfl (by decide) ?_
    refine er_istore cx d_Mo_goOn_68 (by decide) rfl ?_
    refine er_sb cx [1, 2, 3, 4, 0] rfl ?_
    exact w_Mo_goOn_70 cx rt er_fu _ _ _ _ _ _ h
  · have h := er_iff h b1
    refine er_aload_n cx d_Mo_goOn_53 0 rfl ?_
    obtain ⟨c2, h⟩ := er_ck h
    refine er_getr cx d_Mo_goOn_54 fd_Mo_56 c2.1 c2.2 ?_
    refine er_iload cx d_Mo_goOn_57 4 rfl ?_
    refine er_iconst (v := 0) cx d_Mo_goOn_59 rfl (by decide) ?_
    obtain ⟨c3, h⟩ := er_ck h
    obtain ⟨M3, e3, h⟩ := er_lel h
    refine er_iast cx d_Mo_goOn_60 c3.1 c3.2.1 c3.2.2 e3 ?_
    obtain ⟨x4, e4, h⟩ := er_lel h
    refine er_iinc cx d_Mo_goOn_61 (k := 4) rfl (by decide) e4 rfl ?_
    refine er_goto (tgt := 47) cx d_Mo_goOn_64 (by decide) ?_
    refine er_sb cx [1, 2, 3, 4, 0] rfl ?_
    exact hself _ _ _ _ _ _ h
theorem w_Mo_goOn_47 {K : er_K} {l : Launch} {X : er_X} (cx : er_Cx K l X b_Mo_goOn "EchoedRoundsModel" 6 rm_Mo_goOn) {r : Int × er_Me} {T : er_Me} (rt : er_Rt K X b_Mo_goOn (some .boolean) 0 0 (some (.inl r.1)) T r.2) : ∀ n : Nat, ∀ (v0 v1 v2 v3 v4 : Int) (M : er_Me), f_Mo_goOn_47 n T v0 v1 v2 v3 v4 M = some r → er_G K 0 0 T M 47 [(0, .inr v0), (1, .inl v1), (2, .inl v2), (3, .inl v3), (4, .inl v4)] [] := by
  intro n
  induction n with
  | zero =>
    intro v0 v1 v2 v3 v4 M h
    cases h
  | succ n ih =>
    intro v0 v1 v2 v3 v4 M h
    exact w_Mo_goOn_47_b cx rt ih v0 v1 v2 v3 v4 M h
def f_Mo_goOn (p0 p1 : Int) (T M : er_Me) : Option (Int × er_Me) :=
  if T p0 (-2) = 7 ∧ 0 < T p0 13 then
  if T (T p0 13) (-2) = 101 ∧ 0 ≤ p1 ∧ p1 < T (T p0 13) (-1) then
  er_le (M (T p0 13) p1) fun x3 =>
  er_le (er_sub (M p0 0) (M p0 1)) fun x6 =>
  if x3 < 0 then
  some (0, M)
  else
  if 8 < x3 then
  some (0, M)
  else
  if 0 < T p0 11 then
  if T (T p0 11) (-2) = 101 ∧ 0 ≤ er_add (er_mul 9 p1) x3 ∧ er_add (er_mul 9 p1) x3 < T (T p0 11) (-1) then
  if x6 ≤ M (T p0 11) (er_add (er_mul 9 p1) x3) then
  f_Mo_goOn_47 er_fu T p0 p1 x3 x6 0 M
  else
  some (0, M) else none else none else none else none
set_option maxHeartbeats 4000000 in
theorem w_Mo_goOn {K : er_K} {l : Launch} {X : er_X} (cx : er_Cx K l X b_Mo_goOn "EchoedRoundsModel" 6 rm_Mo_goOn) {r : Int × er_Me} {p0 p1 : Int} {T M : er_Me} (rt : er_Rt K X b_Mo_goOn (some .boolean) 0 0 (some (.inl r.1)) T r.2) (h : f_Mo_goOn p0 p1 T M = some r) : er_G K 0 0 T M 0 [(0, .inr p0), (1, .inl p1)] [] := by
  unfold f_Mo_goOn at h
  refine er_aload_n cx d_Mo_goOn_0 0 rfl ?_
  obtain ⟨c1, h⟩ := er_ck h
  refine er_getr cx d_Mo_goOn_1 fd_Mo_44 c1.1 c1.2 ?_
  refine er_iload_n cx d_Mo_goOn_4 1 rfl ?_
  obtain ⟨c2, h⟩ := er_ck h
  refine er_iald cx d_Mo_goOn_5 c2.1 c2.2.1 c2.2.2 ?_
  obtain ⟨x3, e3, h⟩ := er_lel h
  refine er_nm e3 ?_
  refine er_istore_n cx d_Mo_goOn_6 rfl (by decide) rfl ?_
  refine er_aload_n cx d_Mo_goOn_7 1 rfl ?_
  refine er_geti cx d_Mo_goOn_8 fd_Mo_59 c1.1 ?_
  refine er_aload_n cx d_Mo_goOn_11 1 rfl ?_
  refine er_geti cx d_Mo_goOn_12 fd_Mo_63 c1.1 ?_
  refine er_isub cx d_Mo_goOn_15 ?_
  obtain ⟨x6, e6, h⟩ := er_lel h
  refine er_nm e6 ?_
  refine er_istore_n cx d_Mo_goOn_16 rfl (by decide) rfl ?_
  refine er_iload_n cx d_Mo_goOn_17 1 rfl ?_
  refine er_if_lt (tgt := 42) cx d_Mo_goOn_18 (by decide) (fun b7 => ?_) (fun b7 => ?_)
  · have h := er_ift h b7
    refine er_iconst (v := 0) cx d_Mo_goOn_42 rfl (by decide) ?_
    obtain rfl := Option.some.inj h
    exact er_iret rt (Or.inr ⟨rfl, Or.inl rfl⟩) d_Mo_goOn_43 (by decide) (by decide) ⟨rfl, rfl, rfl⟩
  · have h := er_iff h b7
    refine er_iload_n cx d_Mo_goOn_21 1 rfl ?_
    refine er_bipush (v := 8) cx d_Mo_goOn_22 (by decide +kernel) (by decide) ?_
    refine er_ic_gt (tgt := 42) cx d_Mo_goOn_24 (by decide) (fun b9 => ?_) (fun b9 => ?_)
    · have h := er_ift h b9
      refine er_iconst (v := 0) cx d_Mo_goOn_42 rfl (by decide) ?_
      obtain rfl := Option.some.inj h
      exact er_iret rt (Or.inr ⟨rfl, Or.inl rfl⟩) d_Mo_goOn_43 (by decide) (by decide) ⟨rfl, rfl, rfl⟩
    · have h := er_iff h b9
      refine er_aload_n cx d_Mo_goOn_27 2 rfl ?_
      obtain ⟨c11, h⟩ := er_ck h
      refine er_getr cx d_Mo_goOn_28 fd_Mo_38 c1.1 c11 ?_
      refine er_bipush (v := 9) cx d_Mo_goOn_31 (by decide +kernel) (by decide) ?_
      refine er_iload_n cx d_Mo_goOn_33 3 rfl ?_
      refine er_imul cx d_Mo_goOn_34 ?_
      refine er_iload_n cx d_Mo_goOn_35 1 rfl ?_
      refine er_iadd cx d_Mo_goOn_36 ?_
      obtain ⟨c12, h⟩ := er_ck h
      refine er_iald cx d_Mo_goOn_37 c12.1 c12.2.1 c12.2.2 ?_
      refine er_iload_n cx d_Mo_goOn_38 0 rfl ?_
      refine er_ic_ge (tgt := 44) cx d_Mo_goOn_39 (by decide) (fun b13 => ?_) (fun b13 => ?_)
      · have h := er_ift h b13
        refine er_iconst (v := 0) cx d_Mo_goOn_44 rfl (by decide) ?_
        refine er_istore cx d_Mo_goOn_45 (by decide) rfl ?_
        refine er_sb cx [3, 4, 2, 1, 0] rfl ?_
        exact w_Mo_goOn_47 cx rt er_fu _ _ _ _ _ _ h
      · have h := er_iff h b13
        refine er_iconst (v := 0) cx d_Mo_goOn_42 rfl (by decide) ?_
        obtain rfl := Option.some.inj h
        exact er_iret rt (Or.inr ⟨rfl, Or.inl rfl⟩) d_Mo_goOn_43 (by decide) (by decide) ⟨rfl, rfl, rfl⟩
theorem c_Mo_goOn {l : Launch} {X : er_X} {r : Int × er_Me} {p0 p1 : Int} {T M : er_Me} (h : f_Mo_goOn p0 p1 T M = some r) (hok : ∀ v ∈ ([.inr p0, .inl p1] : List er_V), er_ok v) : er_Ct l X y_Mo_goOn b_Mo_goOn 6 (some .boolean) rm_Mo_goOn [.inr p0, .inl p1] T M (some (.inl r.1)) T r.2 :=
  er_ct rfl rfl (Nat.le_of_ble_eq_true rfl) hok (fun K cx rt hin => w_Mo_goOn cx rt h)
/-! Mo_receiveFromLog -/
abbrev rm_Mo_receiveFromLog : Room := { frames := 3, cells := 0, slots := 0, locals := 77 }
def f_Mo_receiveFromLog (p0 p1 p2 : Int) (T M : er_Me) : Option (er_Me) :=
  if T p0 (-2) = 7 ∧ 0 < T p0 3 then
  if 0 < T p0 5 then
  if T (T p0 5) (-2) = 101 ∧ 0 ≤ er_add (er_mul 7 p1) p2 ∧ er_add (er_mul 7 p1) p2 < T (T p0 5) (-1) then
  if T (T p0 3) (-2) = 101 ∧ 0 ≤ er_add (er_mul 140 p2) (M (T p0 5) (er_add (er_mul 7 p1) p2)) ∧ er_add (er_mul 140 p2) (M (T p0 5) (er_add (er_mul 7 p1) p2)) < T (T p0 3) (-1) then
  er_le (M (T p0 3) (er_add (er_mul 140 p2) (M (T p0 5) (er_add (er_mul 7 p1) p2)))) fun x5 =>
  er_le (er_up M (T p0 5) (er_add (er_mul 7 p1) p2) (er_add (M (T p0 5) (er_add (er_mul 7 p1) p2)) 1)) fun M9 =>
  (f_Mo_receive p0 p1 p2 (er_rem (er_div x5 10) 10) (er_div x5 1000) (er_rem (er_div x5 100) 10) (er_rem x5 10) T M9).bind fun q10 =>
  some q10.2 else none else none else none else none
set_option maxHeartbeats 4000000 in
theorem w_Mo_receiveFromLog {K : er_K} {l : Launch} {X : er_X} (cx : er_Cx K l X b_Mo_receiveFromLog "EchoedRoundsModel" 4 rm_Mo_receiveFromLog) {r : er_Me} {p0 p1 p2 : Int} {T M : er_Me} (rt : er_Rt K X b_Mo_receiveFromLog (none) 0 0 none T r) (h : f_Mo_receiveFromLog p0 p1 p2 T M = some r) : er_G K 0 0 T M 0 [(0, .inr p0), (1, .inl p1), (2, .inl p2)] [] := by
  unfold f_Mo_receiveFromLog at h
  refine er_aload_n cx d_Mo_receiveFromLog_0 0 rfl ?_
  obtain ⟨c1, h⟩ := er_ck h
  refine er_getr cx d_Mo_receiveFromLog_1 fd_Mo_13 c1.1 c1.2 ?_
  refine er_sipush (v := 140) cx d_Mo_receiveFromLog_4 (by decide +kernel) (by decide) ?_
  refine er_iload_n cx d_Mo_receiveFromLog_7 2 rfl ?_
  refine er_imul cx d_Mo_receiveFromLog_8 ?_
  refine er_aload_n cx d_Mo_receiveFromLog_9 0 rfl ?_
  obtain ⟨c2, h⟩ := er_ck h
  refine er_getr cx d_Mo_receiveFromLog_10 fd_Mo_20 c1.1 c2 ?_
  refine er_bipush (v := 7) cx d_Mo_receiveFromLog_13 (by decide +kernel) (by decide) ?_
  refine er_iload_n cx d_Mo_receiveFromLog_15 1 rfl ?_
  refine er_imul cx d_Mo_receiveFromLog_16 ?_
  refine er_iload_n cx d_Mo_receiveFromLog_17 2 rfl ?_
  refine er_iadd cx d_Mo_receiveFromLog_18 ?_
  obtain ⟨c3, h⟩ := er_ck h
  refine er_iald cx d_Mo_receiveFromLog_19 c3.1 c3.2.1 c3.2.2 ?_
  refine er_iadd cx d_Mo_receiveFromLog_20 ?_
  obtain ⟨c4, h⟩ := er_ck h
  refine er_iald cx d_Mo_receiveFromLog_21 c4.1 c4.2.1 c4.2.2 ?_
  obtain ⟨x5, e5, h⟩ := er_lel h
  refine er_nm e5 ?_
  refine er_istore_n cx d_Mo_receiveFromLog_22 rfl (by decide) rfl ?_
  refine er_aload_n cx d_Mo_receiveFromLog_23 1 rfl ?_
  refine er_getr cx d_Mo_receiveFromLog_24 fd_Mo_20 c1.1 c2 ?_
  refine er_bipush (v := 7) cx d_Mo_receiveFromLog_27 (by decide +kernel) (by decide) ?_
  refine er_iload_n cx d_Mo_receiveFromLog_29 2 rfl ?_
  refine er_imul cx d_Mo_receiveFromLog_30 ?_
  refine er_iload_n cx d_Mo_receiveFromLog_31 3 rfl ?_
  refine er_iadd cx d_Mo_receiveFromLog_32 ?_
  refine er_aload_n cx d_Mo_receiveFromLog_33 1 rfl ?_
  refine er_getr cx d_Mo_receiveFromLog_34 fd_Mo_20 c1.1 c2 ?_
  refine er_bipush (v := 7) cx d_Mo_receiveFromLog_37 (by decide +kernel) (by decide) ?_
  refine er_iload_n cx d_Mo_receiveFromLog_39 2 rfl ?_
  refine er_imul cx d_Mo_receiveFromLog_40 ?_
  refine er_iload_n cx d_Mo_receiveFromLog_41 3 rfl ?_
  refine er_iadd cx d_Mo_receiveFromLog_42 ?_
  refine er_iald cx d_Mo_receiveFromLog_43 c3.1 c3.2.1 c3.2.2 ?_
  refine er_iconst (v := 1) cx d_Mo_receiveFromLog_44 rfl (by decide) ?_
  refine er_iadd cx d_Mo_receiveFromLog_45 ?_
  obtain ⟨M9, e9, h⟩ := er_lel h
  refine er_iast cx d_Mo_receiveFromLog_46 c3.1 c3.2.1 c3.2.2 e9 ?_
  refine er_aload_n cx d_Mo_receiveFromLog_47 1 rfl ?_
  refine er_iload_n cx d_Mo_receiveFromLog_48 2 rfl ?_
  refine er_iload_n cx d_Mo_receiveFromLog_49 3 rfl ?_
  refine er_iload_n cx d_Mo_receiveFromLog_50 0 rfl ?_
  refine er_bipush (v := 10) cx d_Mo_receiveFromLog_51 (by decide +kernel) (by decide) ?_
  refine er_idiv cx d_Mo_receiveFromLog_53 (by decide) ?_
  refine er_bipush (v := 10) cx d_Mo_receiveFromLog_54 (by decide +kernel) (by decide) ?_
  refine er_irem cx d_Mo_receiveFromLog_56 (by decide) ?_
  refine er_iload_n cx d_Mo_receiveFromLog_57 0 rfl ?_
  refine er_sipush (v := 1000) cx d_Mo_receiveFromLog_58 (by decide +kernel) (by decide) ?_
  refine er_idiv cx d_Mo_receiveFromLog_61 (by decide) ?_
  refine er_iload_n cx d_Mo_receiveFromLog_62 0 rfl ?_
  refine er_bipush (v := 100) cx d_Mo_receiveFromLog_63 (by decide +kernel) (by decide) ?_
  refine er_idiv cx d_Mo_receiveFromLog_65 (by decide) ?_
  refine er_bipush (v := 10) cx d_Mo_receiveFromLog_66 (by decide +kernel) (by decide) ?_
  refine er_irem cx d_Mo_receiveFromLog_68 (by decide) ?_
  refine er_iload_n cx d_Mo_receiveFromLog_69 0 rfl ?_
  refine er_bipush (v := 10) cx d_Mo_receiveFromLog_70 (by decide +kernel) (by decide) ?_
  refine er_irem cx d_Mo_receiveFromLog_72 (by decide) ?_
  obtain ⟨q10, e10, h⟩ := er_bd h
  refine er_callV (b := p0) (As := [.inl p1, .inl p2, .inl (er_rem (er_div x5 10) 10), .inl (er_div x5 1000), .inl (er_rem (er_div x5 100) 10), .inl (er_rem x5 10)]) (st := []) cx (c_Mo_receive e10) my_Mo_82 c1.1 ⟨by decide, by decide⟩ rfl (Nat.le_of_ble_eq_true rfl) d_Mo_receiveFromLog_73 ⟨Nat.zero_le _, Nat.zero_le _⟩ rfl ?_
  refine er_pop cx d_Mo_receiveFromLog_76 ?_
  obtain rfl := Option.some.inj h
  exact er_vret rt d_Mo_receiveFromLog_77 (by decide) (by decide) ⟨rfl, rfl, rfl⟩
theorem c_Mo_receiveFromLog {l : Launch} {X : er_X} {r : er_Me} {p0 p1 p2 : Int} {T M : er_Me} (h : f_Mo_receiveFromLog p0 p1 p2 T M = some r) (hok : ∀ v ∈ ([.inr p0, .inl p1, .inl p2] : List er_V), er_ok v) : er_Ct l X y_Mo_receiveFromLog b_Mo_receiveFromLog 4 (none) rm_Mo_receiveFromLog [.inr p0, .inl p1, .inl p2] T M none T r :=
  er_ct rfl rfl (Nat.le_of_ble_eq_true rfl) hok (fun K cx rt hin => w_Mo_receiveFromLog cx rt h)
/-! Mo_can -/
abbrev rm_Mo_can : Room := { frames := 3, cells := 0, slots := 0, locals := 74 }
def f_Mo_can_110 (T : er_Me) (v0 v1 v2 v3 v4 s0 : Int) (M : er_Me) : Option (Int × er_Me) :=
  if s0 = 0 then
  some (0, M)
  else
  if T v0 (-2) = 7 then
  (f_Mo_some v0 v1 (er_sub v2 1) v4 T M).bind fun q3 =>
  if q3.1 = 0 then
  some (0, q3.2)
  else
  some (1, q3.2) else none
set_option maxHeartbeats 4000000 in
theorem w_Mo_can_110 {K : er_K} {l : Launch} {X : er_X} (cx : er_Cx K l X b_Mo_can "EchoedRoundsModel" 6 rm_Mo_can) {r : Int × er_Me} {T : er_Me} (rt : er_Rt K X b_Mo_can (some .boolean) 0 0 (some (.inl r.1)) T r.2) : ∀ (v0 v1 v2 v3 v4 s0 : Int) (M : er_Me), f_Mo_can_110 T v0 v1 v2 v3 v4 s0 M = some r → er_G K 0 0 T M 110 [(0, .inr v0), (1, .inl v1), (2, .inl v2), (3, .inl v3), (4, .inl v4)] [.inl s0] := by
  intro v0 v1 v2 v3 v4 s0 M h
  unfold f_Mo_can_110 at h
  refine er_istore cx d_Mo_can_110 (by decide) rfl ?_
  refine er_iload cx d_Mo_can_112 0 rfl ?_
  refine er_if_eq (tgt := 134) cx d_Mo_can_114 (by decide) (fun b1 => ?_) (fun b1 => ?_)
  · have h := er_ift h b1
    refine er_iconst (v := 0) cx d_Mo_can_134 rfl (by decide) ?_
    obtain rfl := Option.some.inj h
    exact er_iret rt (Or.inr ⟨rfl, Or.inl rfl⟩) d_Mo_can_135 (by decide) (by decide) ⟨rfl, rfl, rfl⟩
  · have h := er_iff h b1
    refine er_aload_n cx d_Mo_can_117 1 rfl ?_
    refine er_iload_n cx d_Mo_can_118 2 rfl ?_
    refine er_iload_n cx d_Mo_can_119 3 rfl ?_
    refine er_iconst (v := 1) cx d_Mo_can_120 rfl (by decide) ?_
    refine er_isub cx d_Mo_can_121 ?_
    refine er_iload cx d_Mo_can_122 5 rfl ?_
    obtain ⟨c3, h⟩ := er_ck h
    obtain ⟨q3, e3, h⟩ := er_bd h
    refine er_callV (b := v0) (As := [.inl v1, .inl (er_sub v2 1), .inl v4]) (st := []) cx (c_Mo_some e3) my_Mo_90 c3 ⟨by decide, by decide⟩ rfl (Nat.le_of_ble_eq_true rfl) d_Mo_can_124 ⟨Nat.zero_le _, Nat.zero_le _⟩ rfl ?_
    refine er_if_eq (tgt := 134) cx d_Mo_can_127 (by decide) (fun b4 => ?_) (fun b4 => ?_)
    · have h := er_ift h b4
      refine er_iconst (v := 0) cx d_Mo_can_134 rfl (by decide) ?_
      obtain rfl := Option.some.inj h
      exact er_iret rt (Or.inr ⟨rfl, Or.inl rfl⟩) d_Mo_can_135 (by decide) (by decide) ⟨rfl, rfl, rfl⟩
    · have h := er_iff h b4
      refine er_iconst (v := 1) cx d_Mo_can_130 rfl (by decide) ?_
      refine er_goto (tgt := 135) cx d_Mo_can_131 (by decide) ?_
      obtain rfl := Option.some.inj h
      exact er_iret rt (Or.inr ⟨rfl, Or.inr rfl⟩) d_Mo_can_135 (by decide) (by decide) ⟨rfl, rfl, rfl⟩
def f_Mo_can (p0 p1 p2 p3 : Int) (T M : er_Me) : Option (Int × er_Me) :=
  if T p0 (-2) = 7 ∧ 0 < T p0 8 then
  (f_Mo_at p1 p2 p3 T M).bind fun q2 =>
  if T (T p0 8) (-2) = 101 ∧ 0 ≤ q2.1 ∧ q2.1 < T (T p0 8) (-1) then
  er_le (er_sub (q2.2 (T p0 8) q2.1) 1) fun x4 =>
  if p2 = 0 then
  if 2 ≤ x4 then
  some (0, q2.2)
  else
  some (1, q2.2)
  else
  if er_rem p2 3 = 2 then
  if 1 < x4 then
  f_Mo_can_110 T p0 p1 p2 p3 x4 1 q2.2
  else
  if 0 < T p0 9 then
  (f_Mo_at p1 (er_sub p2 1) p3 T q2.2).bind fun q9 =>
  if T (T p0 9) (-2) = 102 ∧ 0 ≤ q9.1 ∧ q9.1 < T (T p0 9) (-1) then
  if q9.2 (T p0 9) q9.1 = 0 then
  f_Mo_can_110 T p0 p1 p2 p3 x4 0 q9.2
  else
  (f_Mo_at p1 (er_sub p2 1) p3 T q9.2).bind fun q13 =>
  if 0 ≤ q13.1 ∧ q13.1 < T (T p0 8) (-1) then
  if q13.2 (T p0 8) q13.1 = er_add x4 1 then
  f_Mo_can_110 T p0 p1 p2 p3 x4 1 q13.2
  else
  f_Mo_can_110 T p0 p1 p2 p3 x4 0 q13.2 else none else none else none
  else
  if 2 ≤ x4 then
  some (0, q2.2)
  else
  (f_Mo_some p0 p1 (er_sub p2 1) x4 T q2.2).bind fun q18 =>
  if q18.1 = 0 then
  some (0, q18.2)
  else
  some (1, q18.2) else none else none
set_option maxHeartbeats 4000000 in
theorem w_Mo_can {K : er_K} {l : Launch} {X : er_X} (cx : er_Cx K l X b_Mo_can "EchoedRoundsModel" 6 rm_Mo_can) {r : Int × er_Me} {p0 p1 p2 p3 : Int} {T M : er_Me} (rt : er_Rt K X b_Mo_can (some .boolean) 0 0 (some (.inl r.1)) T r.2) (h : f_Mo_can p0 p1 p2 p3 T M = some r) : er_G K 0 0 T M 0 [(0, .inr p0), (1, .inl p1), (2, .inl p2), (3, .inl p3)] [] := by
  unfold f_Mo_can at h
  refine er_aload_n cx d_Mo_can_0 0 rfl ?_
  obtain ⟨c1, h⟩ := er_ck h
  refine er_getr cx d_Mo_can_1 fd_Mo_29 c1.1 c1.2 ?_
  refine er_iload_n cx d_Mo_can_4 1 rfl ?_
  refine er_iload_n cx d_Mo_can_5 2 rfl ?_
  refine er_iload_n cx d_Mo_can_6 3 rfl ?_
  obtain ⟨q2, e2, h⟩ := er_bd h
  refine er_callS (As := [.inl p1, .inl p2, .inl p3]) (st := [.inr (T p0 8)]) cx (c_Mo_at e2) my_Mo_70 ⟨by decide, by decide⟩ rfl (Nat.le_of_ble_eq_true rfl) d_Mo_can_7 ⟨Nat.zero_le _, Nat.zero_le _⟩ rfl ?_
  obtain ⟨c3, h⟩ := er_ck h
  refine er_iald cx d_Mo_can_10 c3.1 c3.2.1 c3.2.2 ?_
  refine er_iconst (v := 1) cx d_Mo_can_11 rfl (by decide) ?_
  refine er_isub cx d_Mo_can_12 ?_
  obtain ⟨x4, e4, h⟩ := er_lel h
  refine er_nm e4 ?_
  refine er_istore cx d_Mo_can_13 (by decide) rfl ?_
  refine er_iload_n cx d_Mo_can_15 3 rfl ?_
  refine er_if_ne (tgt := 31) cx d_Mo_can_16 (by decide) (fun b5 => ?_) (fun b5 => ?_)
  · have h := er_iff h b5
    refine er_iload_n cx d_Mo_can_31 3 rfl ?_
    refine er_iconst (v := 3) cx d_Mo_can_32 rfl (by decide) ?_
    refine er_irem cx d_Mo_can_33 (by decide) ?_
    refine er_iconst (v := 2) cx d_Mo_can_34 rfl (by decide) ?_
    refine er_ic_eq (tgt := 63) cx d_Mo_can_35 (by decide) (fun b6 => ?_) (fun b6 => ?_)
    · have h := er_ift h b6
      refine er_iload cx d_Mo_can_63 0 rfl ?_
      refine er_iconst (v := 1) cx d_Mo_can_65 rfl (by decide) ?_
      refine er_ic_gt (tgt := 105) cx d_Mo_can_66 (by decide) (fun b7 => ?_) (fun b7 => ?_)
      · have h := er_ift h b7
        refine er_iconst (v := 1) cx d_Mo_can_105 rfl (by decide) ?_
        refine er_goto (tgt := 110) cx d_Mo_can_106 (by decide) ?_
        refine er_sb cx [1, 2, 3, 4, 0] rfl ?_
        exact w_Mo_can_110 cx rt _ _ _ _ _ _ _ h
      · have h := er_iff h b7
        refine er_aload_n cx d_Mo_can_69 1 rfl ?_
        obtain ⟨c8, h⟩ := er_ck h
        refine er_getr cx d_Mo_can_70 fd_Mo_32 c1.1 c8 ?_
        refine er_iload_n cx d_Mo_can_73 2 rfl ?_
        refine er_iload_n cx d_Mo_can_74 3 rfl ?_
        refine er_iconst (v := 1) cx d_Mo_can_75 rfl (by decide) ?_
        refine er_isub cx d_Mo_can_76 ?_
        refine er_iload_n cx d_Mo_can_77 4 rfl ?_
        obtain ⟨q9, e9, h⟩ := er_bd h
        refine er_callS (As := [.inl p1, .inl (er_sub p2 1), .inl p3]) (st := [.inr (T p0 9)]) cx (c_Mo_at e9) my_Mo_70 ⟨by decide, by decide⟩ rfl (Nat.le_of_ble_eq_true rfl) d_Mo_can_78 ⟨Nat.zero_le _, Nat.zero_le _⟩ rfl ?_
        obtain ⟨c10, h⟩ := er_ck h
        refine er_zald cx d_Mo_can_81 c10.1 c10.2.1 c10.2.2 ?_
        refine er_if_eq (tgt := 109) cx d_Mo_can_82 (by decide) (fun b11 => ?_) (fun b11 => ?_)
        · have h := er_ift h b11
          refine er_iconst (v := 0) cx d_Mo_can_109 rfl (by decide) ?_
          refine er_sb cx [1, 2, 3, 4, 0] rfl ?_
          exact w_Mo_can_110 cx rt _ _ _ _ _ _ _ h
        · have h := er_iff h b11
          refine er_aload_n cx d_Mo_can_85 1 rfl ?_
          refine er_getr cx d_Mo_can_86 fd_Mo_29 c1.1 c1.2 ?_
          refine er_iload_n cx d_Mo_can_89 2 rfl ?_
          refine er_iload_n cx d_Mo_can_90 3 rfl ?_
          refine er_iconst (v := 1) cx d_Mo_can_91 rfl (by decide) ?_
          refine er_isub cx d_Mo_can_92 ?_
          refine er_iload_n cx d_Mo_can_93 4 rfl ?_
          obtain ⟨q13, e13, h⟩ := er_bd h
          refine er_callS (As := [.inl p1, .inl (er_sub p2 1), .inl p3]) (st := [.inr (T p0 8)]) cx (c_Mo_at e13) my_Mo_70 ⟨by decide, by decide⟩ rfl (Nat.le_of_ble_eq_true rfl) d_Mo_can_94 ⟨Nat.zero_le _, Nat.zero_le _⟩ rfl ?_
          obtain ⟨c14, h⟩ := er_ck h
          refine er_iald cx d_Mo_can_97 c3.1 c14.1 c14.2 ?_
          refine er_iload cx d_Mo_can_98 0 rfl ?_
          refine er_iconst (v := 1) cx d_Mo_can_100 rfl (by decide) ?_
          refine er_iadd cx d_Mo_can_101 ?_
          refine er_ic_ne (tgt := 109) cx d_Mo_can_102 (by decide) (fun b15 => ?_) (fun b15 => ?_)
          · have h := er_iff h b15
            refine er_iconst (v := 0) cx d_Mo_can_109 rfl (by decide) ?_
            refine er_sb cx [1, 2, 3, 4, 0] rfl ?_
            exact w_Mo_can_110 cx rt _ _ _ _ _ _ _ h
          · have h := er_ift h b15
            refine er_iconst (v := 1) cx d_Mo_can_105 rfl (by decide) ?_
            refine er_goto (tgt := 110) cx d_Mo_can_106 (by decide) ?_
            refine er_sb cx [1, 2, 3, 4, 0] rfl ?_
            exact w_Mo_can_110 cx rt _ _ _ _ _ _ _ h
    · have h := er_iff h b6
      refine er_iload cx d_Mo_can_38 0 rfl ?_
      refine er_iconst (v := 2) cx d_Mo_can_40 rfl (by decide) ?_
      refine er_ic_ge (tgt := 61) cx d_Mo_can_41 (by decide) (fun b16 => ?_) (fun b16 => ?_)
      · have h := er_ift h b16
        refine er_iconst (v := 0) cx d_Mo_can_61 rfl (by decide) ?_
        obtain rfl := Option.some.inj h
        exact er_iret rt (Or.inr ⟨rfl, Or.inl rfl⟩) d_Mo_can_62 (by decide) (by decide) ⟨rfl, rfl, rfl⟩
      · have h := er_iff h b16
        refine er_aload_n cx d_Mo_can_44 1 rfl ?_
        refine er_iload_n cx d_Mo_can_45 2 rfl ?_
        refine er_iload_n cx d_Mo_can_46 3 rfl ?_
        refine er_iconst (v := 1) cx d_Mo_can_47 rfl (by decide) ?_
        refine er_isub cx d_Mo_can_48 ?_
        refine er_iload cx d_Mo_can_49 0 rfl ?_
        obtain ⟨q18, e18, h⟩ := er_bd h
        refine er_callV (b := p0) (As := [.inl p1, .inl (er_sub p2 1), .inl x4]) (st := []) cx (c_Mo_some e18) my_Mo_90 c1.1 ⟨by decide, by decide⟩ rfl (Nat.le_of_ble_eq_true rfl) d_Mo_can_51 ⟨Nat.zero_le _, Nat.zero_le _⟩ rfl ?_
        refine er_if_eq (tgt := 61) cx d_Mo_can_54 (by decide) (fun b19 => ?_) (fun b19 => ?_)
        · have h := er_ift h b19
          refine er_iconst (v := 0) cx d_Mo_can_61 rfl (by decide) ?_
          obtain rfl := Option.some.inj h
          exact er_iret rt (Or.inr ⟨rfl, Or.inl rfl⟩) d_Mo_can_62 (by decide) (by decide) ⟨rfl, rfl, rfl⟩
        · have h := er_iff h b19
          refine er_iconst (v := 1) cx d_Mo_can_57 rfl (by decide) ?_
          refine er_goto (tgt := 62) cx d_Mo_can_58 (by decide) ?_
          obtain rfl := Option.some.inj h
          exact er_iret rt (Or.inr ⟨rfl, Or.inr rfl⟩) d_Mo_can_62 (by decide) (by decide) ⟨rfl, rfl, rfl⟩
  · have h := er_ift h b5
    refine er_iload cx d_Mo_can_19 0 rfl ?_
    refine er_iconst (v := 2) cx d_Mo_can_21 rfl (by decide) ?_
    refine er_ic_ge (tgt := 29) cx d_Mo_can_22 (by decide) (fun b22 => ?_) (fun b22 => ?_)
    · have h := er_ift h b22
      refine er_iconst (v := 0) cx d_Mo_can_29 rfl (by decide) ?_
      obtain rfl := Option.some.inj h
      exact er_iret rt (Or.inr ⟨rfl, Or.inl rfl⟩) d_Mo_can_30 (by decide) (by decide) ⟨rfl, rfl, rfl⟩
    · have h := er_iff h b22
      refine er_iconst (v := 1) cx d_Mo_can_25 rfl (by decide) ?_
      refine er_goto (tgt := 30) cx d_Mo_can_26 (by decide) ?_
      obtain rfl := Option.some.inj h
      exact er_iret rt (Or.inr ⟨rfl, Or.inr rfl⟩) d_Mo_can_30 (by decide) (by decide) ⟨rfl, rfl, rfl⟩
theorem c_Mo_can {l : Launch} {X : er_X} {r : Int × er_Me} {p0 p1 p2 p3 : Int} {T M : er_Me} (h : f_Mo_can p0 p1 p2 p3 T M = some r) (hok : ∀ v ∈ ([.inr p0, .inl p1, .inl p2, .inl p3] : List er_V), er_ok v) : er_Ct l X y_Mo_can b_Mo_can 6 (some .boolean) rm_Mo_can [.inr p0, .inl p1, .inl p2, .inl p3] T M (some (.inl r.1)) T r.2 :=
  er_ct rfl rfl (Nat.le_of_ble_eq_true rfl) hok (fun K cx rt hin => w_Mo_can cx rt h)
/-! Mo_validate -/
abbrev rm_Mo_validate : Room := { frames := 4, cells := 0, slots := 0, locals := 99 }
def f_Mo_validate_10_b (k2 : Int → Int → Int → er_Me → Option (Int × er_Me)) (self : Int → Int → Int → Int → er_Me → Option (Int × er_Me)) (v0 v1 v2 v3 : Int) (T M : er_Me) : Option (Int × er_Me) :=
  if T v0 (-2) = 7 then
  if M v0 0 ≤ v3 then
  er_le (er_add v2 1) fun x3 =>
  k2 v0 v1 x3 M
  else
  if 0 < T v0 8 then
  (f_Mo_at v1 v2 v3 T M).bind fun q5 =>
  if T (T v0 8) (-2) = 101 ∧ 0 ≤ q5.1 ∧ q5.1 < T (T v0 8) (-1) then
  if q5.2 (T v0 8) q5.1 ≤ 0 then
  er_le (er_add v3 1) fun x8 =>
  self v0 v1 v2 x8 q5.2
  else
  if 0 < T v0 9 then
  (f_Mo_at v1 v2 v3 T q5.2).bind fun q10 =>
  if T (T v0 9) (-2) = 102 ∧ 0 ≤ q10.1 ∧ q10.1 < T (T v0 9) (-1) then
  if q10.2 (T v0 9) q10.1 = 0 then
  (f_Mo_can v0 v1 v2 v3 T q10.2).bind fun q14 =>
  if q14.1 = 0 then
  er_le (er_add v3 1) fun x16 =>
  self v0 v1 v2 x16 q14.2
  else
  (f_Mo_at v1 v2 v3 T q14.2).bind fun q18 =>
  if 0 ≤ q18.1 ∧ q18.1 < T (T v0 9) (-1) then
  er_le (er_up q18.2 (T v0 9) q18.1 1) fun M19 =>
  if 0 < T v0 10 then
  if 0 < T v0 11 then
  if T (T v0 11) (-2) = 101 ∧ 0 ≤ er_add (er_mul 9 v1) v2 ∧ er_add (er_mul 9 v1) v2 < T (T v0 11) (-1) then
  (f_Mo_at v1 v2 (M19 (T v0 11) (er_add (er_mul 9 v1) v2)) T M19).bind fun q23 =>
  if T (T v0 10) (-2) = 101 ∧ 0 ≤ q23.1 ∧ q23.1 < T (T v0 10) (-1) then
  er_le (er_up q23.2 (T v0 10) q23.1 v3) fun M24 =>
  er_le (er_up M24 (T v0 11) (er_add (er_mul 9 v1) v2) (er_add (M24 (T v0 11) (er_add (er_mul 9 v1) v2)) 1)) fun M28 =>
  some (1, M28) else none else none else none else none else none
  else
  er_le (er_add v3 1) fun x13 =>
  self v0 v1 v2 x13 q10.2 else none else none else none else none else none
def f_Mo_validate_10 (k2 : Int → Int → Int → er_Me → Option (Int × er_Me)) : Nat → er_Me → Int → Int → Int → Int → er_Me → Option (Int × er_Me)
  | 0, _ => fun _ _ _ _ _ => none
  | n + 1, T => fun v0 v1 v2 v3 M => f_Mo_validate_10_b k2 (f_Mo_validate_10 k2 n T) v0 v1 v2 v3 T M
set_option maxHeartbeats 4000000 in
theorem w_Mo_validate_10_b {K : er_K} {l : Launch} {X : er_X} (cx : er_Cx K l X b_Mo_validate "EchoedRoundsModel" 4 rm_Mo_validate) {r : Int × er_Me} {T : er_Me} (rt : er_Rt K X b_Mo_validate (some .boolean) 0 0 (some (.inl r.1)) T r.2) {k2 : Int → Int → Int → er_Me → Option (Int × er_Me)} (hk2 : ∀ (v0 v1 v2 : Int) (M : er_Me), k2 v0 v1 v2 M = some r → er_G K 0 0 T M 2 [(0, .inr v0), (1, .inl v1), (2, .inl v2)] []) {self : Int → Int → Int → Int → er_Me → Option (Int × er_Me)} (hself : ∀ (v0 v1 v2 v3 : Int) (M : er_Me), self v0 v1 v2 v3 M = some r → er_G K 0 0 T M 10 [(0, .inr v0), (1, .inl v1), (2, .inl v2), (3, .inl v3)] []) : ∀ (v0 v1 v2 v3 : Int) (M : er_Me), f_Mo_validate_10_b k2 self v0 v1 v2 v3 T M = some r → er_G K 0 0 T M 10 [(0, .inr v0), (1, .inl v1), (2, .inl v2), (3, .inl v3)] [] := by
  intro v0 v1 v2 v3 M h
  unfold f_Mo_validate_10_b at h
  refine er_iload_n cx d_Mo_validate_10 3 rfl ?_
  refine er_aload_n cx d_Mo_validate_11 0 rfl ?_
  obtain ⟨c1, h⟩ := er_ck h
  refine er_geti cx d_Mo_validate_12 fd_Mo_59 c1 ?_
  refine er_ic_ge (tgt := 122) cx d_Mo_validate_15 (by decide) (fun b2 => ?_) (fun b2 => ?_)
  · have h := er_ift h b2
    obtain ⟨x3, e3, h⟩ := er_lel h
    refine er_iinc cx d_Mo_validate_122 (k := 2) rfl (by decide) e3 rfl ?_
    refine er_goto (tgt := 2) cx d_Mo_validate_125 (by decide) ?_
    refine er_sb cx [1, 2, 0] rfl ?_
    exact hk2 _ _ _ _ h
  · have h := er_iff h b2
    refine er_aload_n cx d_Mo_validate_18 0 rfl ?_
    obtain ⟨c4, h⟩ := er_ck h
    refine er_getr cx d_Mo_validate_19 fd_Mo_29 c1 c4 ?_
    refine er_iload_n cx d_Mo_validate_22 1 rfl ?_
    refine er_iload_n cx d_Mo_validate_23 2 rfl ?_
    refine er_iload_n cx d_Mo_validate_24 3 rfl ?_
    obtain ⟨q5, e5, h⟩ := er_bd h
    refine er_callS (As := [.inl v1, .inl v2, .inl v3]) (st := [.inr (T v0 8)]) cx (c_Mo_at e5) my_Mo_70 ⟨by decide, by decide⟩ rfl (Nat.le_of_ble_eq_true rfl) d_Mo_validate_25 ⟨Nat.zero_le _, Nat.zero_le _⟩ rfl ?_
    obtain ⟨c6, h⟩ := er_ck h
    refine er_iald cx d_Mo_validate_28 c6.1 c6.2.1 c6.2.2 ?_
    refine er_if_le (tgt := 116) cx d_Mo_validate_29 (by decide) (fun b7 => ?_) (fun b7 => ?_)
    · have h := er_ift h b7
      obtain ⟨x8, e8, h⟩ := er_lel h
      refine er_iinc cx d_Mo_validate_116 (k := 3) rfl (by decide) e8 rfl ?_
      refine er_goto (tgt := 10) cx d_Mo_validate_119 (by decide) ?_
      refine er_sb cx [1, 2, 3, 0] rfl ?_
      exact hself _ _ _ _ _ h
    · have h := er_iff h b7
      refine er_aload_n cx d_Mo_validate_32 0 rfl ?_
      obtain ⟨c9, h⟩ := er_ck h
      refine er_getr cx d_Mo_validate_33 fd_Mo_32 c1 c9 ?_
      refine er_iload_n cx d_Mo_validate_36 1 rfl ?_
      refine er_iload_n cx d_Mo_validate_37 2 rfl ?_
      refine er_iload_n cx d_Mo_validate_38 3 rfl ?_
      obtain ⟨q10, e10, h⟩ := er_bd h
      refine er_callS (As := [.inl v1, .inl v2, .inl v3]) (st := [.inr (T v0 9)]) cx (c_Mo_at e10) my_Mo_70 ⟨by decide, by decide⟩ rfl (Nat.le_of_ble_eq_true rfl) d_Mo_validate_39 ⟨Nat.zero_le _, Nat.zero_le _⟩ rfl ?_
      obtain ⟨c11, h⟩ := er_ck h
      refine er_zald cx d_Mo_validate_42 c11.1 c11.2.1 c11.2.2 ?_
      refine er_if_ne (tgt := 116) cx d_Mo_validate_43 (by decide) (fun b12 => ?_) (fun b12 => ?_)
      · have h := er_iff h b12
        obtain ⟨x13, e13, h⟩ := er_lel h
        refine er_iinc cx d_Mo_validate_116 (k := 3) rfl (by decide) e13 rfl ?_
        refine er_goto (tgt := 10) cx d_Mo_validate_119 (by decide) ?_
        refine er_sb cx [1, 2, 3, 0] rfl ?_
        exact hself _ _ _ _ _ h
      · have h := er_ift h b12
        refine er_aload_n cx d_Mo_validate_46 0 rfl ?_
        refine er_iload_n cx d_Mo_validate_47 1 rfl ?_
        refine er_iload_n cx d_Mo_validate_48 2 rfl ?_
        refine er_iload_n cx d_Mo_validate_49 3 rfl ?_
        obtain ⟨q14, e14, h⟩ := er_bd h
        refine er_callV (b := v0) (As := [.inl v1, .inl v2, .inl v3]) (st := []) cx (c_Mo_can e14) my_Mo_94 c1 ⟨by decide, by decide⟩ rfl (Nat.le_of_ble_eq_true rfl) d_Mo_validate_50 ⟨Nat.zero_le _, Nat.zero_le _⟩ rfl ?_
        refine er_if_eq (tgt := 116) cx d_Mo_validate_53 (by decide) (fun b15 => ?_) (fun b15 => ?_)
        · have h := er_ift h b15
          obtain ⟨x16, e16, h⟩ := er_lel h
          refine er_iinc cx d_Mo_validate_116 (k := 3) rfl (by decide) e16 rfl ?_
          refine er_goto (tgt := 10) cx d_Mo_validate_119 (by decide) ?_
          refine er_sb cx [1, 2, 3, 0] rfl ?_
          exact hself _ _ _ _ _ h
        · have h := er_iff h b15
          refine er_aload_n cx d_Mo_validate_56 0 rfl ?_
          refine er_getr cx d_Mo_validate_57 fd_Mo_32 c1 c9 ?_
          refine er_iload_n cx d_Mo_validate_60 1 rfl ?_
          refine er_iload_n cx d_Mo_validate_61 2 rfl ?_
          refine er_iload_n cx d_Mo_validate_62 3 rfl ?_
          obtain ⟨q18, e18, h⟩ := er_bd h
          refine er_callS (As := [.inl v1, .inl v2, .inl v3]) (st := [.inr (T v0 9)]) cx (c_Mo_at e18) my_Mo_70 ⟨by decide, by decide⟩ rfl (Nat.le_of_ble_eq_true rfl) d_Mo_validate_63 ⟨Nat.zero_le _, Nat.zero_le _⟩ rfl ?_
          refine er_iconst (v := 1) cx d_Mo_validate_66 rfl (by decide) ?_
          obtain ⟨c19, h⟩ := er_ck h
          obtain ⟨M19, e19, h⟩ := er_lel h
          refine er_zast cx d_Mo_validate_67 c11.1 c19.1 c19.2 (Or.inr rfl) e19 ?_
          refine er_aload_n cx d_Mo_validate_68 0 rfl ?_
          obtain ⟨c20, h⟩ := er_ck h
          refine er_getr cx d_Mo_validate_69 fd_Mo_35 c1 c20 ?_
          refine er_iload_n cx d_Mo_validate_72 1 rfl ?_
          refine er_iload_n cx d_Mo_validate_73 2 rfl ?_
          refine er_aload_n cx d_Mo_validate_74 0 rfl ?_
          obtain ⟨c21, h⟩ := er_ck h
          refine er_getr cx d_Mo_validate_75 fd_Mo_38 c1 c21 ?_
          refine er_bipush (v := 9) cx d_Mo_validate_78 (by decide +kernel) (by decide) ?_
          refine er_iload_n cx d_Mo_validate_80 1 rfl ?_
          refine er_imul cx d_Mo_validate_81 ?_
          refine er_iload_n cx d_Mo_validate_82 2 rfl ?_
          refine er_iadd cx d_Mo_validate_83 ?_
          obtain ⟨c22, h⟩ := er_ck h
          refine er_iald cx d_Mo_validate_84 c22.1 c22.2.1 c22.2.2 ?_
          obtain ⟨q23, e23, h⟩ := er_bd h
          refine er_callS (As := [.inl v1, .inl v2, .inl (M19 (T v0 11) (er_add (er_mul 9 v1) v2))]) (st := [.inr (T v0 10)]) cx (c_Mo_at e23) my_Mo_70 ⟨by decide, by decide⟩ rfl (Nat.le_of_ble_eq_true rfl) d_Mo_validate_85 ⟨Nat.zero_le _, Nat.zero_le _⟩ rfl ?_
          refine er_iload_n cx d_Mo_validate_88 3 rfl ?_
          obtain ⟨c24, h⟩ := er_ck h
          obtain ⟨M24, e24, h⟩ := er_lel h
          refine er_iast cx d_Mo_validate_89 c24.1 c24.2.1 c24.2.2 e24 ?_
          refine er_aload_n cx d_Mo_validate_90 0 rfl ?_
          refine er_getr cx d_Mo_validate_91 fd_Mo_38 c1 c21 ?_
          refine er_bipush (v := 9) cx d_Mo_validate_94 (by decide +kernel) (by decide) ?_
          refine er_iload_n cx d_Mo_validate_96 1 rfl ?_
          refine er_imul cx d_Mo_validate_97 ?_
          refine er_iload_n cx d_Mo_validate_98 2 rfl ?_
          refine er_iadd cx d_Mo_validate_99 ?_
          refine er_aload_n cx d_Mo_validate_100 0 rfl ?_
          refine er_getr cx d_Mo_validate_101 fd_Mo_38 c1 c21 ?_
          refine er_bipush (v := 9) cx d_Mo_validate_104 (by decide +kernel) (by decide) ?_
          refine er_iload_n cx d_Mo_validate_106 1 rfl ?_
          refine er_imul cx d_Mo_validate_107 ?_
          refine er_iload_n cx d_Mo_validate_108 2 rfl ?_
          refine er_iadd cx d_Mo_validate_109 ?_
          refine er_iald cx d_Mo_validate_110 c22.1 c22.2.1 c22.2.2 ?_
          refine er_iconst (v := 1) cx d_Mo_validate_111 rfl (by decide) ?_
          refine er_iadd cx d_Mo_validate_112 ?_
          obtain ⟨M28, e28, h⟩ := er_lel h
          refine er_iast cx d_Mo_validate_113 c22.1 c22.2.1 c22.2.2 e28 ?_
          refine er_iconst (v := 1) cx d_Mo_validate_114 rfl (by decide) ?_
          obtain rfl := Option.some.inj h
          exact er_iret rt (Or.inr ⟨rfl, Or.inr rfl⟩) d_Mo_validate_115 (by decide) (by decide) ⟨rfl, rfl, rfl⟩
theorem w_Mo_validate_10 {K : er_K} {l : Launch} {X : er_X} (cx : er_Cx K l X b_Mo_validate "EchoedRoundsModel" 4 rm_Mo_validate) {r : Int × er_Me} {T : er_Me} (rt : er_Rt K X b_Mo_validate (some .boolean) 0 0 (some (.inl r.1)) T r.2) {k2 : Int → Int → Int → er_Me → Option (Int × er_Me)} (hk2 : ∀ (v0 v1 v2 : Int) (M : er_Me), k2 v0 v1 v2 M = some r → er_G K 0 0 T M 2 [(0, .inr v0), (1, .inl v1), (2, .inl v2)] []) : ∀ n : Nat, ∀ (v0 v1 v2 v3 : Int) (M : er_Me), f_Mo_validate_10 k2 n T v0 v1 v2 v3 M = some r → er_G K 0 0 T M 10 [(0, .inr v0), (1, .inl v1), (2, .inl v2), (3, .inl v3)] [] := by
  intro n
  induction n with
  | zero =>
    intro v0 v1 v2 v3 M h
    cases h
  | succ n ih =>
    intro v0 v1 v2 v3 M h
    exact w_Mo_validate_10_b cx rt hk2 ih v0 v1 v2 v3 M h
def f_Mo_validate_2_b (self : Int → Int → Int → er_Me → Option (Int × er_Me)) (v0 v1 v2 : Int) (T M : er_Me) : Option (Int × er_Me) :=
  if 9 ≤ v2 then
  some (0, M)
  else
  f_Mo_validate_10 self er_fu T v0 v1 v2 0 M
def f_Mo_validate_2 : Nat → er_Me → Int → Int → Int → er_Me → Option (Int × er_Me)
  | 0, _ => fun _ _ _ _ => none
  | n + 1, T => fun v0 v1 v2 M => f_Mo_validate_2_b (f_Mo_validate_2 n T) v0 v1 v2 T M
set_option maxHeartbeats 4000000 in
theorem w_Mo_validate_2_b {K : er_K} {l : Launch} {X : er_X} (cx : er_Cx K l X b_Mo_validate "EchoedRoundsModel" 4 rm_Mo_validate) {r : Int × er_Me} {T : er_Me} (rt : er_Rt K X b_Mo_validate (some .boolean) 0 0 (some (.inl r.1)) T r.2) {self : Int → Int → Int → er_Me → Option (Int × er_Me)} (hself : ∀ (v0 v1 v2 : Int) (M : er_Me), self v0 v1 v2 M = some r → er_G K 0 0 T M 2 [(0, .inr v0), (1, .inl v1), (2, .inl v2)] []) : ∀ (v0 v1 v2 : Int) (M : er_Me), f_Mo_validate_2_b self v0 v1 v2 T M = some r → er_G K 0 0 T M 2 [(0, .inr v0), (1, .inl v1), (2, .inl v2)] [] := by
  intro v0 v1 v2 M h
  unfold f_Mo_validate_2_b at h
  refine er_iload_n cx d_Mo_validate_2 2 rfl ?_
  refine er_bipush (v := 9) cx d_Mo_validate_3 (by decide +kernel) (by decide) ?_
  refine er_ic_ge (tgt := 128) cx d_Mo_validate_5 (by decide) (fun b1 => ?_) (fun b1 => ?_)
  · have h := er_ift h b1
    refine er_iconst (v := 0) cx d_Mo_validate_128 rfl (by decide) ?_
    obtain rfl := Option.some.inj h
    exact er_iret rt (Or.inr ⟨rfl, Or.inl rfl⟩) d_Mo_validate_129 (by decide) (by decide) ⟨rfl, rfl, rfl⟩
  · have h := er_iff h b1
    refine er_iconst (v := 0) cx d_Mo_validate_8 rfl (by decide) ?_
    refine er_istore_n cx d_Mo_validate_9 rfl (by decide) rfl ?_
    refine er_sb cx [1, 2, 3, 0] rfl ?_
    exact w_Mo_validate_10 cx rt hself er_fu _ _ _ _ _ h
theorem w_Mo_validate_2 {K : er_K} {l : Launch} {X : er_X} (cx : er_Cx K l X b_Mo_validate "EchoedRoundsModel" 4 rm_Mo_validate) {r : Int × er_Me} {T : er_Me} (rt : er_Rt K X b_Mo_validate (some .boolean) 0 0 (some (.inl r.1)) T r.2) : ∀ n : Nat, ∀ (v0 v1 v2 : Int) (M : er_Me), f_Mo_validate_2 n T v0 v1 v2 M = some r → er_G K 0 0 T M 2 [(0, .inr v0), (1, .inl v1), (2, .inl v2)] [] := by
  intro n
  induction n with
  | zero =>
    intro v0 v1 v2 M h
    cases h
  | succ n ih =>
    intro v0 v1 v2 M h
    exact w_Mo_validate_2_b cx rt ih v0 v1 v2 M h
def f_Mo_validate (p0 p1 : Int) (T M : er_Me) : Option (Int × er_Me) :=
  f_Mo_validate_2 er_fu T p0 p1 0 M
set_option maxHeartbeats 4000000 in
theorem w_Mo_validate {K : er_K} {l : Launch} {X : er_X} (cx : er_Cx K l X b_Mo_validate "EchoedRoundsModel" 4 rm_Mo_validate) {r : Int × er_Me} {p0 p1 : Int} {T M : er_Me} (rt : er_Rt K X b_Mo_validate (some .boolean) 0 0 (some (.inl r.1)) T r.2) (h : f_Mo_validate p0 p1 T M = some r) : er_G K 0 0 T M 0 [(0, .inr p0), (1, .inl p1)] [] := by
  unfold f_Mo_validate at h
  refine er_iconst (v := 0) cx d_Mo_validate_0 rfl (by decide) ?_
  refine er_istore_n cx d_Mo_validate_1 rfl (by decide) rfl ?_
  refine er_sb cx [1, 2, 0] rfl ?_
  exact w_Mo_validate_2 cx rt er_fu _ _ _ _ h
theorem c_Mo_validate {l : Launch} {X : er_X} {r : Int × er_Me} {p0 p1 : Int} {T M : er_Me} (h : f_Mo_validate p0 p1 T M = some r) (hok : ∀ v ∈ ([.inr p0, .inl p1] : List er_V), er_ok v) : er_Ct l X y_Mo_validate b_Mo_validate 4 (some .boolean) rm_Mo_validate [.inr p0, .inl p1] T M (some (.inl r.1)) T r.2 :=
  er_ct rfl rfl (Nat.le_of_ble_eq_true rfl) hok (fun K cx rt hin => w_Mo_validate cx rt h)
/-! Mo_settle -/
abbrev rm_Mo_settle : Room := { frames := 5, cells := 0, slots := 0, locals := 122 }
def f_Mo_settle_4_b (self : Int → Int → Int → Int → er_Me → Option (er_Me)) (v0 v1 v2 v3 : Int) (T M : er_Me) : Option (er_Me) :=
  if 2000 ≤ v3 then
  some M
  else
  if v2 = 0 then
  some M
  else
  if T v0 (-2) = 7 ∧ 0 < T v0 5 then
  if T (T v0 5) (-2) = 101 ∧ 0 ≤ er_mul 8 v1 ∧ er_mul 8 v1 < T (T v0 5) (-1) then
  if 0 < T v0 4 then
  if T (T v0 4) (-2) = 101 ∧ 0 ≤ v1 ∧ v1 < T (T v0 4) (-1) then
  if M (T v0 4) v1 ≤ M (T v0 5) (er_mul 8 v1) then
  (f_Mo_validate v0 v1 T M).bind fun q8 =>
  if q8.1 = 0 then
  (f_Mo_goOn v0 v1 T q8.2).bind fun q11 =>
  if q11.1 = 0 then
  er_le (er_add v3 1) fun x13 =>
  self v0 v1 0 x13 q11.2
  else
  er_le (er_add v3 1) fun x14 =>
  self v0 v1 1 x14 q11.2
  else
  er_le (er_add v3 1) fun x10 =>
  self v0 v1 1 x10 q8.2
  else
  (f_Mo_receiveFromLog v0 v1 v1 T M).bind fun q15 =>
  er_le (er_add v3 1) fun x16 =>
  self v0 v1 v2 x16 q15 else none else none else none else none
def f_Mo_settle_4 : Nat → er_Me → Int → Int → Int → Int → er_Me → Option (er_Me)
  | 0, _ => fun _ _ _ _ _ => none
  | n + 1, T => fun v0 v1 v2 v3 M => f_Mo_settle_4_b (f_Mo_settle_4 n T) v0 v1 v2 v3 T M
set_option maxHeartbeats 4000000 in
theorem w_Mo_settle_4_b {K : er_K} {l : Launch} {X : er_X} (cx : er_Cx K l X b_Mo_settle "EchoedRoundsModel" 4 rm_Mo_settle) {r : er_Me} {T : er_Me} (rt : er_Rt K X b_Mo_settle (none) 0 0 none T r) {self : Int → Int → Int → Int → er_Me → Option (er_Me)} (hself : ∀ (v0 v1 v2 v3 : Int) (M : er_Me), self v0 v1 v2 v3 M = some r → er_G K 0 0 T M 4 [(0, .inr v0), (1, .inl v1), (2, .inl v2), (3, .inl v3)] []) : ∀ (v0 v1 v2 v3 : Int) (M : er_Me), f_Mo_settle_4_b self v0 v1 v2 v3 T M = some r → er_G K 0 0 T M 4 [(0, .inr v0), (1, .inl v1), (2, .inl v2), (3, .inl v3)] [] := by
  intro v0 v1 v2 v3 M h
  unfold f_Mo_settle_4_b at h
  refine er_iload_n cx d_Mo_settle_4 3 rfl ?_
  refine er_sipush (v := 2000) cx d_Mo_settle_5 (by decide +kernel) (by decide) ?_
  refine er_ic_ge (tgt := 70) cx d_Mo_settle_8 (by decide) (fun b1 => ?_) (fun b1 => ?_)
  · have h := er_ift h b1
    obtain rfl := Option.some.inj h
    exact er_vret rt d_Mo_settle_70 (by decide) (by decide) ⟨rfl, rfl, rfl⟩
  · have h := er_iff h b1
    refine er_iload_n cx d_Mo_settle_11 2 rfl ?_
    refine er_if_eq (tgt := 70) cx d_Mo_settle_12 (by decide) (fun b2 => ?_) (fun b2 => ?_)
    · have h := er_ift h b2
      obtain rfl := Option.some.inj h
      exact er_vret rt d_Mo_settle_70 (by decide) (by decide) ⟨rfl, rfl, rfl⟩
    · have h := er_iff h b2
      refine er_aload_n cx d_Mo_settle_15 0 rfl ?_
      obtain ⟨c3, h⟩ := er_ck h
      refine er_getr cx d_Mo_settle_16 fd_Mo_20 c3.1 c3.2 ?_
      refine er_bipush (v := 8) cx d_Mo_settle_19 (by decide +kernel) (by decide) ?_
      refine er_iload_n cx d_Mo_settle_21 1 rfl ?_
      refine er_imul cx d_Mo_settle_22 ?_
      obtain ⟨c4, h⟩ := er_ck h
      refine er_iald cx d_Mo_settle_23 c4.1 c4.2.1 c4.2.2 ?_
      refine er_aload_n cx d_Mo_settle_24 0 rfl ?_
      obtain ⟨c5, h⟩ := er_ck h
      refine er_getr cx d_Mo_settle_25 fd_Mo_17 c3.1 c5 ?_
      refine er_iload_n cx d_Mo_settle_28 1 rfl ?_
      obtain ⟨c6, h⟩ := er_ck h
      refine er_iald cx d_Mo_settle_29 c6.1 c6.2.1 c6.2.2 ?_
      refine er_ic_ge (tgt := 42) cx d_Mo_settle_30 (by decide) (fun b7 => ?_) (fun b7 => ?_)
      · have h := er_ift h b7
        refine er_aload_n cx d_Mo_settle_42 0 rfl ?_
        refine er_iload_n cx d_Mo_settle_43 1 rfl ?_
        obtain ⟨q8, e8, h⟩ := er_bd h
        refine er_callV (b := v0) (As := [.inl v1]) (st := []) cx (c_Mo_validate e8) my_Mo_109 c3.1 ⟨by decide, by decide⟩ rfl (Nat.le_of_ble_eq_true rfl) d_Mo_settle_44 ⟨Nat.zero_le _, Nat.zero_le _⟩ rfl ?_
        refine er_if_ne (tgt := 58) cx d_Mo_settle_47 (by decide) (fun b9 => ?_) (fun b9 => ?_)
        · have h := er_iff h b9
          refine er_iconst (v := 1) cx d_Mo_settle_58 rfl (by decide) ?_
          refine er_goto (tgt := 63) cx d_Mo_settle_59 (by decide) ?_
          refine er_istore_n cx d_Mo_settle_63 rfl (by decide) rfl ?_
          obtain ⟨x10, e10, h⟩ := er_lel h
          refine er_iinc cx d_Mo_settle_64 (k := 3) rfl (by decide) e10 rfl ?_
          refine er_goto (tgt := 4) cx d_Mo_settle_67 (by decide) ?_
          refine er_sb cx [2, 3, 1, 0] rfl ?_
          exact hself _ _ _ _ _ h
        · have h := er_ift h b9
          refine er_aload_n cx d_Mo_settle_50 0 rfl ?_
          refine er_iload_n cx d_Mo_settle_51 1 rfl ?_
          obtain ⟨q11, e11, h⟩ := er_bd h
          refine er_callV (b := v0) (As := [.inl v1]) (st := []) cx (c_Mo_goOn e11) my_Mo_112 c3.1 ⟨by decide, by decide⟩ rfl (Nat.le_of_ble_eq_true rfl) d_Mo_settle_52 ⟨Nat.zero_le _, Nat.zero_le _⟩ rfl ?_
          refine er_if_eq (tgt := 62) cx d_Mo_settle_55 (by decide) (fun b12 => ?_) (fun b12 => ?_)
          · have h := er_ift h b12
            refine er_iconst (v := 0) cx d_Mo_settle_62 rfl (by decide) ?_
            refine er_istore_n cx d_Mo_settle_63 rfl (by decide) rfl ?_
            obtain ⟨x13, e13, h⟩ := er_lel h
            refine er_iinc cx d_Mo_settle_64 (k := 3) rfl (by decide) e13 rfl ?_
            refine er_goto (tgt := 4) cx d_Mo_settle_67 (by decide) ?_
            refine er_sb cx [2, 3, 1, 0] rfl ?_
            exact hself _ _ _ _ _ h
          · have h := er_iff h b12
            refine er_iconst (v := 1) cx d_Mo_settle_58 rfl (by decide) ?_
            refine er_goto (tgt := 63) cx d_Mo_settle_59 (by decide) ?_
            refine er_istore_n cx d_Mo_settle_63 rfl (by decide) rfl ?_
            obtain ⟨x14, e14, h⟩ := er_lel h
            refine er_iinc cx d_Mo_settle_64 (k := 3) rfl (by decide) e14 rfl ?_
            refine er_goto (tgt := 4) cx d_Mo_settle_67 (by decide) ?_
            refine er_sb cx [2, 3, 1, 0] rfl ?_
            exact hself _ _ _ _ _ h
      · have h := er_iff h b7
        refine er_aload_n cx d_Mo_settle_33 0 rfl ?_
        refine er_iload_n cx d_Mo_settle_34 1 rfl ?_
        refine er_iload_n cx d_Mo_settle_35 1 rfl ?_
        obtain ⟨q15, e15, h⟩ := er_bd h
        refine er_callV (b := v0) (As := [.inl v1, .inl v1]) (st := []) cx (c_Mo_receiveFromLog e15) my_Mo_105 c3.1 ⟨by decide, by decide⟩ rfl (Nat.le_of_ble_eq_true rfl) d_Mo_settle_36 ⟨Nat.zero_le _, Nat.zero_le _⟩ rfl ?_
        refine er_goto (tgt := 64) cx d_Mo_settle_39 (by decide) ?_
        obtain ⟨x16, e16, h⟩ := er_lel h
        refine er_iinc cx d_Mo_settle_64 (k := 3) rfl (by decide) e16 rfl ?_
        refine er_goto (tgt := 4) cx d_Mo_settle_67 (by decide) ?_
        refine er_sb cx [1, 2, 3, 0] rfl ?_
        exact hself _ _ _ _ _ h
theorem w_Mo_settle_4 {K : er_K} {l : Launch} {X : er_X} (cx : er_Cx K l X b_Mo_settle "EchoedRoundsModel" 4 rm_Mo_settle) {r : er_Me} {T : er_Me} (rt : er_Rt K X b_Mo_settle (none) 0 0 none T r) : ∀ n : Nat, ∀ (v0 v1 v2 v3 : Int) (M : er_Me), f_Mo_settle_4 n T v0 v1 v2 v3 M = some r → er_G K 0 0 T M 4 [(0, .inr v0), (1, .inl v1), (2, .inl v2), (3, .inl v3)] [] := by
  intro n
  induction n with
  | zero =>
    intro v0 v1 v2 v3 M h
    cases h
  | succ n ih =>
    intro v0 v1 v2 v3 M h
    exact w_Mo_settle_4_b cx rt ih v0 v1 v2 v3 M h
def f_Mo_settle (p0 p1 : Int) (T M : er_Me) : Option (er_Me) :=
  f_Mo_settle_4 er_fu T p0 p1 1 0 M
set_option maxHeartbeats 4000000 in
theorem w_Mo_settle {K : er_K} {l : Launch} {X : er_X} (cx : er_Cx K l X b_Mo_settle "EchoedRoundsModel" 4 rm_Mo_settle) {r : er_Me} {p0 p1 : Int} {T M : er_Me} (rt : er_Rt K X b_Mo_settle (none) 0 0 none T r) (h : f_Mo_settle p0 p1 T M = some r) : er_G K 0 0 T M 0 [(0, .inr p0), (1, .inl p1)] [] := by
  unfold f_Mo_settle at h
  refine er_iconst (v := 1) cx d_Mo_settle_0 rfl (by decide) ?_
  refine er_istore_n cx d_Mo_settle_1 rfl (by decide) rfl ?_
  refine er_iconst (v := 0) cx d_Mo_settle_2 rfl (by decide) ?_
  refine er_istore_n cx d_Mo_settle_3 rfl (by decide) rfl ?_
  refine er_sb cx [2, 3, 1, 0] rfl ?_
  exact w_Mo_settle_4 cx rt er_fu _ _ _ _ _ h
theorem c_Mo_settle {l : Launch} {X : er_X} {r : er_Me} {p0 p1 : Int} {T M : er_Me} (h : f_Mo_settle p0 p1 T M = some r) (hok : ∀ v ∈ ([.inr p0, .inl p1] : List er_V), er_ok v) : er_Ct l X y_Mo_settle b_Mo_settle 4 (none) rm_Mo_settle [.inr p0, .inl p1] T M none T r :=
  er_ct rfl rfl (Nat.le_of_ble_eq_true rfl) hok (fun K cx rt hin => w_Mo_settle cx rt h)
/-! Mo_start -/
abbrev rm_Mo_start : Room := { frames := 6, cells := 0, slots := 0, locals := 145 }
def f_Mo_start (p0 p1 p2 : Int) (T M : er_Me) : Option (Int × er_Me) :=
  if T p0 (-2) = 7 then
  (f_Mo_well p0 p1 T M).bind fun q1 =>
  if q1.1 = 0 then
  some (0, q1.2)
  else
  if 0 < T p0 13 then
  if T (T p0 13) (-2) = 101 ∧ 0 ≤ p1 ∧ p1 < T (T p0 13) (-1) then
  if 0 ≤ q1.2 (T p0 13) p1 then
  some (0, q1.2)
  else
  if p2 < 0 then
  some (0, q1.2)
  else
  if p2 ≤ 1 then
  er_le (er_up q1.2 (T p0 13) p1 0) fun M12 =>
  if 0 < T p0 14 then
  if T (T p0 14) (-2) = 101 ∧ p1 < T (T p0 14) (-1) then
  er_le (er_up M12 (T p0 14) p1 p2) fun M14 =>
  (f_Mo_send p0 p1 0 0 p1 p2 T M14).bind fun q15 =>
  (f_Mo_settle p0 p1 T q15).bind fun q16 =>
  some (1, q16) else none else none
  else
  some (0, q1.2) else none else none else none
set_option maxHeartbeats 4000000 in
theorem w_Mo_start {K : er_K} {l : Launch} {X : er_X} (cx : er_Cx K l X b_Mo_start "EchoedRoundsModel" 3 rm_Mo_start) {r : Int × er_Me} {p0 p1 p2 : Int} {T M : er_Me} (rt : er_Rt K X b_Mo_start (some .boolean) 0 0 (some (.inl r.1)) T r.2) (h : f_Mo_start p0 p1 p2 T M = some r) : er_G K 0 0 T M 0 [(0, .inr p0), (1, .inl p1), (2, .inl p2)] [] := by
  unfold f_Mo_start at h
  refine er_aload_n cx d_Mo_start_0 0 rfl ?_
  refine er_iload_n cx d_Mo_start_1 1 rfl ?_
  obtain ⟨c1, h⟩ := er_ck h
  obtain ⟨q1, e1, h⟩ := er_bd h
  refine er_callV (b := p0) (As := [.inl p1]) (st := []) cx (c_Mo_well e1) my_Mo_115 c1 ⟨by decide, by decide⟩ rfl (Nat.le_of_ble_eq_true rfl) d_Mo_start_2 ⟨Nat.zero_le _, Nat.zero_le _⟩ rfl ?_
  refine er_if_eq (tgt := 26) cx d_Mo_start_5 (by decide) (fun b2 => ?_) (fun b2 => ?_)
  · have h := er_ift h b2
    refine er_iconst (v := 0) cx d_Mo_start_26 rfl (by decide) ?_
    obtain rfl := Option.some.inj h
    exact er_iret rt (Or.inr ⟨rfl, Or.inl rfl⟩) d_Mo_start_27 (by decide) (by decide) ⟨rfl, rfl, rfl⟩
  · have h := er_iff h b2
    refine er_aload_n cx d_Mo_start_8 0 rfl ?_
    obtain ⟨c4, h⟩ := er_ck h
    refine er_getr cx d_Mo_start_9 fd_Mo_44 c1 c4 ?_
    refine er_iload_n cx d_Mo_start_12 1 rfl ?_
    obtain ⟨c5, h⟩ := er_ck h
    refine er_iald cx d_Mo_start_13 c5.1 c5.2.1 c5.2.2 ?_
    refine er_if_ge (tgt := 26) cx d_Mo_start_14 (by decide) (fun b6 => ?_) (fun b6 => ?_)
    · have h := er_ift h b6
      refine er_iconst (v := 0) cx d_Mo_start_26 rfl (by decide) ?_
      obtain rfl := Option.some.inj h
      exact er_iret rt (Or.inr ⟨rfl, Or.inl rfl⟩) d_Mo_start_27 (by decide) (by decide) ⟨rfl, rfl, rfl⟩
    · have h := er_iff h b6
      refine er_iload_n cx d_Mo_start_17 2 rfl ?_
      refine er_if_lt (tgt := 26) cx d_Mo_start_18 (by decide) (fun b8 => ?_) (fun b8 => ?_)
      · have h := er_ift h b8
        refine er_iconst (v := 0) cx d_Mo_start_26 rfl (by decide) ?_
        obtain rfl := Option.some.inj h
        exact er_iret rt (Or.inr ⟨rfl, Or.inl rfl⟩) d_Mo_start_27 (by decide) (by decide) ⟨rfl, rfl, rfl⟩
      · have h := er_iff h b8
        refine er_iload_n cx d_Mo_start_21 2 rfl ?_
        refine er_iconst (v := 1) cx d_Mo_start_22 rfl (by decide) ?_
        refine er_ic_le (tgt := 28) cx d_Mo_start_23 (by decide) (fun b10 => ?_) (fun b10 => ?_)
        · have h := er_ift h b10
          refine er_aload_n cx d_Mo_start_28 0 rfl ?_
          refine er_getr cx d_Mo_start_29 fd_Mo_44 c1 c4 ?_
          refine er_iload_n cx d_Mo_start_32 1 rfl ?_
          refine er_iconst (v := 0) cx d_Mo_start_33 rfl (by decide) ?_
          obtain ⟨M12, e12, h⟩ := er_lel h
          refine er_iast cx d_Mo_start_34 c5.1 c5.2.1 c5.2.2 e12 ?_
          refine er_aload_n cx d_Mo_start_35 0 rfl ?_
          obtain ⟨c13, h⟩ := er_ck h
          refine er_getr cx d_Mo_start_36 fd_Mo_47 c1 c13 ?_
          refine er_iload_n cx d_Mo_start_39 1 rfl ?_
          refine er_iload_n cx d_Mo_start_40 2 rfl ?_
          obtain ⟨c14, h⟩ := er_ck h
          obtain ⟨M14, e14, h⟩ := er_lel h
          refine er_iast cx d_Mo_start_41 c14.1 c5.2.1 c14.2 e14 ?_
          refine er_aload_n cx d_Mo_start_42 0 rfl ?_
          refine er_iload_n cx d_Mo_start_43 1 rfl ?_
          refine er_iconst (v := 0) cx d_Mo_start_44 rfl (by decide) ?_
          refine er_iconst (v := 0) cx d_Mo_start_45 rfl (by decide) ?_
          refine er_iload_n cx d_Mo_start_46 1 rfl ?_
          refine er_iload_n cx d_Mo_start_47 2 rfl ?_
          obtain ⟨q15, e15, h⟩ := er_bd h
          refine er_callV (b := p0) (As := [.inl p1, .inl 0, .inl 0, .inl p1, .inl p2]) (st := []) cx (c_Mo_send e15) my_Mo_74 c1 ⟨by decide, by decide⟩ rfl (Nat.le_of_ble_eq_true rfl) d_Mo_start_48 ⟨Nat.zero_le _, Nat.zero_le _⟩ rfl ?_
          refine er_aload_n cx d_Mo_start_51 0 rfl ?_
          refine er_iload_n cx d_Mo_start_52 1 rfl ?_
          obtain ⟨q16, e16, h⟩ := er_bd h
          refine er_callV (b := p0) (As := [.inl p1]) (st := []) cx (c_Mo_settle e16) my_Mo_118 c1 ⟨by decide, by decide⟩ rfl (Nat.le_of_ble_eq_true rfl) d_Mo_start_53 ⟨Nat.zero_le _, Nat.zero_le _⟩ rfl ?_
          refine er_iconst (v := 1) cx d_Mo_start_56 rfl (by decide) ?_
          obtain rfl := Option.some.inj h
          exact er_iret rt (Or.inr ⟨rfl, Or.inr rfl⟩) d_Mo_start_57 (by decide) (by decide) ⟨rfl, rfl, rfl⟩
        · have h := er_iff h b10
          refine er_iconst (v := 0) cx d_Mo_start_26 rfl (by decide) ?_
          obtain rfl := Option.some.inj h
          exact er_iret rt (Or.inr ⟨rfl, Or.inl rfl⟩) d_Mo_start_27 (by decide) (by decide) ⟨rfl, rfl, rfl⟩
theorem c_Mo_start {l : Launch} {X : er_X} {r : Int × er_Me} {p0 p1 p2 : Int} {T M : er_Me} (h : f_Mo_start p0 p1 p2 T M = some r) (hok : ∀ v ∈ ([.inr p0, .inl p1, .inl p2] : List er_V), er_ok v) : er_Ct l X y_Mo_start b_Mo_start 3 (some .boolean) rm_Mo_start [.inr p0, .inl p1, .inl p2] T M (some (.inl r.1)) T r.2 :=
  er_ct rfl rfl (Nat.le_of_ble_eq_true rfl) hok (fun K cx rt hin => w_Mo_start cx rt h)
/-! Mo_pass -/
abbrev rm_Mo_pass : Room := { frames := 6, cells := 0, slots := 0, locals := 145 }
def f_Mo_pass_37_b (self : Int → Int → Int → Int → Int → er_Me → Option (Int × er_Me)) (v0 v1 v2 v3 v4 : Int) (T M : er_Me) : Option (Int × er_Me) :=
  if v3 ≤ v4 then
  some (v4, M)
  else
  if T v0 (-2) = 7 ∧ 0 < T v0 5 then
  if T (T v0 5) (-2) = 101 ∧ 0 ≤ er_add (er_mul 7 v2) v1 ∧ er_add (er_mul 7 v2) v1 < T (T v0 5) (-1) then
  if 0 < T v0 4 then
  if T (T v0 4) (-2) = 101 ∧ 0 ≤ v1 ∧ v1 < T (T v0 4) (-1) then
  if M (T v0 4) v1 ≤ M (T v0 5) (er_add (er_mul 7 v2) v1) then
  some (v4, M)
  else
  (f_Mo_receiveFromLog v0 v2 v1 T M).bind fun q9 =>
  (f_Mo_settle v0 v2 T q9).bind fun q10 =>
  self v0 v1 v2 v3 (er_add v4 1) q10 else none else none else none else none
def f_Mo_pass_37 : Nat → er_Me → Int → Int → Int → Int → Int → er_Me → Option (Int × er_Me)
  | 0, _ => fun _ _ _ _ _ _ => none
  | n + 1, T => fun v0 v1 v2 v3 v4 M => f_Mo_pass_37_b (f_Mo_pass_37 n T) v0 v1 v2 v3 v4 T M
set_option maxHeartbeats 4000000 in
theorem w_Mo_pass_37_b {K : er_K} {l : Launch} {X : er_X} (cx : er_Cx K l X b_Mo_pass "EchoedRoundsModel" 5 rm_Mo_pass) {r : Int × er_Me} {T : er_Me} (rt : er_Rt K X b_Mo_pass (some .int) 0 0 (some (.inl r.1)) T r.2) {self : Int → Int → Int → Int → Int → er_Me → Option (Int × er_Me)} (hself : ∀ (v0 v1 v2 v3 v4 : Int) (M : er_Me), self v0 v1 v2 v3 v4 M = some r → er_G K 0 0 T M 37 [(0, .inr v0), (1, .inl v1), (2, .inl v2), (3, .inl v3), (4, .inl v4)] []) : ∀ (v0 v1 v2 v3 v4 : Int) (M : er_Me), f_Mo_pass_37_b self v0 v1 v2 v3 v4 T M = some r → er_G K 0 0 T M 37 [(0, .inr v0), (1, .inl v1), (2, .inl v2), (3, .inl v3), (4, .inl v4)] [] := by
  intro v0 v1 v2 v3 v4 M h
  unfold f_Mo_pass_37_b at h
  refine er_iload cx d_Mo_pass_37 4 rfl ?_
  refine er_iload_n cx d_Mo_pass_39 3 rfl ?_
  refine er_ic_ge (tgt := 83) cx d_Mo_pass_40 (by decide) (fun b1 => ?_) (fun b1 => ?_)
  · have h := er_ift h b1
    refine er_iload cx d_Mo_pass_83 4 rfl ?_
    obtain rfl := Option.some.inj h
    exact er_iret rt (Or.inl rfl) d_Mo_pass_85 (by decide) (by decide) ⟨rfl, rfl, rfl⟩
  · have h := er_iff h b1
    refine er_aload_n cx d_Mo_pass_43 0 rfl ?_
    obtain ⟨c3, h⟩ := er_ck h
    refine er_getr cx d_Mo_pass_44 fd_Mo_20 c3.1 c3.2 ?_
    refine er_bipush (v := 7) cx d_Mo_pass_47 (by decide +kernel) (by decide) ?_
    refine er_iload_n cx d_Mo_pass_49 2 rfl ?_
    refine er_imul cx d_Mo_pass_50 ?_
    refine er_iload_n cx d_Mo_pass_51 1 rfl ?_
    refine er_iadd cx d_Mo_pass_52 ?_
    obtain ⟨c4, h⟩ := er_ck h
    refine er_iald cx d_Mo_pass_53 c4.1 c4.2.1 c4.2.2 ?_
    refine er_aload_n cx d_Mo_pass_54 0 rfl ?_
    obtain ⟨c5, h⟩ := er_ck h
    refine er_getr cx d_Mo_pass_55 fd_Mo_17 c3.1 c5 ?_
    refine er_iload_n cx d_Mo_pass_58 1 rfl ?_
    obtain ⟨c6, h⟩ := er_ck h
    refine er_iald cx d_Mo_pass_59 c6.1 c6.2.1 c6.2.2 ?_
    refine er_ic_ge (tgt := 83) cx d_Mo_pass_60 (by decide) (fun b7 => ?_) (fun b7 => ?_)
    · have h := er_ift h b7
      refine er_iload cx d_Mo_pass_83 4 rfl ?_
      obtain rfl := Option.some.inj h
      exact er_iret rt (Or.inl rfl) d_Mo_pass_85 (by decide) (by decide) ⟨rfl, rfl, rfl⟩
    · have h := er_iff h b7
      refine er_aload_n cx d_Mo_pass_63 0 rfl ?_
      refine er_iload_n cx d_Mo_pass_64 2 rfl ?_
      refine er_iload_n cx d_Mo_pass_65 1 rfl ?_
      obtain ⟨q9, e9, h⟩ := er_bd h
      refine er_callV (b := v0) (As := [.inl v2, .inl v1]) (st := []) cx (c_Mo_receiveFromLog e9) my_Mo_105 c3.1 ⟨by decide, by decide⟩ rfl (Nat.le_of_ble_eq_true rfl) d_Mo_pass_66 ⟨Nat.zero_le _, Nat.zero_le _⟩ rfl ?_
      refine er_aload_n cx d_Mo_pass_69 0 rfl ?_
      refine er_iload_n cx d_Mo_pass_70 2 rfl ?_
      obtain ⟨q10, e10, h⟩ := er_bd h
      refine er_callV (b := v0) (As := [.inl v2]) (st := []) cx (c_Mo_settle e10) my_Mo_118 c3.1 ⟨by decide, by decide⟩ rfl (Nat.le_of_ble_eq_true rfl) d_Mo_pass_71 ⟨Nat.zero_le _, Nat.zero_le _⟩ rfl ?_
      refine er_iload cx d_Mo_pass_74 4 rfl ?_
      refine er_iconst (v := 1) cx d_Mo_pass_76 rfl (by decide) ?_
      refine er_iadd cx d_Mo_pass_77 ?_
      refine er_istore cx d_Mo_pass_78 (by decide) rfl ?_
      refine er_goto (tgt := 37) cx d_Mo_pass_80 (by decide) ?_
      refine er_sb cx [1, 2, 3, 4, 0] rfl ?_
      exact hself _ _ _ _ _ _ h
theorem w_Mo_pass_37 {K : er_K} {l : Launch} {X : er_X} (cx : er_Cx K l X b_Mo_pass "EchoedRoundsModel" 5 rm_Mo_pass) {r : Int × er_Me} {T : er_Me} (rt : er_Rt K X b_Mo_pass (some .int) 0 0 (some (.inl r.1)) T r.2) : ∀ n : Nat, ∀ (v0 v1 v2 v3 v4 : Int) (M : er_Me), f_Mo_pass_37 n T v0 v1 v2 v3 v4 M = some r → er_G K 0 0 T M 37 [(0, .inr v0), (1, .inl v1), (2, .inl v2), (3, .inl v3), (4, .inl v4)] [] := by
  intro n
  induction n with
  | zero =>
    intro v0 v1 v2 v3 v4 M h
    cases h
  | succ n ih =>
    intro v0 v1 v2 v3 v4 M h
    exact w_Mo_pass_37_b cx rt ih v0 v1 v2 v3 v4 M h
def f_Mo_pass (p0 p1 p2 p3 : Int) (T M : er_Me) : Option (Int × er_Me) :=
  if T p0 (-2) = 7 then
  (f_Mo_isNode p0 p1 T M).bind fun q1 =>
  if q1.1 = 0 then
  some ((-1), q1.2)
  else
  (f_Mo_well p0 p2 T q1.2).bind fun q4 =>
  if q4.1 = 0 then
  some ((-1), q4.2)
  else
  if p1 = p2 then
  some ((-1), q4.2)
  else
  if p3 < 1 then
  some ((-1), q4.2)
  else
  if p3 ≤ 100 then
  f_Mo_pass_37 er_fu T p0 p1 p2 p3 0 q4.2
  else
  some ((-1), q4.2) else none
set_option maxHeartbeats 4000000 in
theorem w_Mo_pass {K : er_K} {l : Launch} {X : er_X} (cx : er_Cx K l X b_Mo_pass "EchoedRoundsModel" 5 rm_Mo_pass) {r : Int × er_Me} {p0 p1 p2 p3 : Int} {T M : er_Me} (rt : er_Rt K X b_Mo_pass (some .int) 0 0 (some (.inl r.1)) T r.2) (h : f_Mo_pass p0 p1 p2 p3 T M = some r) : er_G K 0 0 T M 0 [(0, .inr p0), (1, .inl p1), (2, .inl p2), (3, .inl p3)] [] := by
  unfold f_Mo_pass at h
  refine er_aload_n cx d_Mo_pass_0 0 rfl ?_
  refine er_iload_n cx d_Mo_pass_1 1 rfl ?_
  obtain ⟨c1, h⟩ := er_ck h
  obtain ⟨q1, e1, h⟩ := er_bd h
  refine er_callV (b := p0) (As := [.inl p1]) (st := []) cx (c_Mo_isNode e1) my_Mo_66 c1 ⟨by decide, by decide⟩ rfl (Nat.le_of_ble_eq_true rfl) d_Mo_pass_2 ⟨Nat.zero_le _, Nat.zero_le _⟩ rfl ?_
  refine er_if_eq (tgt := 32) cx d_Mo_pass_5 (by decide) (fun b2 => ?_) (fun b2 => ?_)
  · have h := er_ift h b2
    refine er_iconst (v := -1) cx d_Mo_pass_32 rfl (by decide) ?_
    obtain rfl := Option.some.inj h
    exact er_iret rt (Or.inl rfl) d_Mo_pass_33 (by decide) (by decide) ⟨rfl, rfl, rfl⟩
  · have h := er_iff h b2
    refine er_aload_n cx d_Mo_pass_8 0 rfl ?_
    refine er_iload_n cx d_Mo_pass_9 2 rfl ?_
    obtain ⟨q4, e4, h⟩ := er_bd h
    refine er_callV (b := p0) (As := [.inl p2]) (st := []) cx (c_Mo_well e4) my_Mo_115 c1 ⟨by decide, by decide⟩ rfl (Nat.le_of_ble_eq_true rfl) d_Mo_pass_10 ⟨Nat.zero_le _, Nat.zero_le _⟩ rfl ?_
    refine er_if_eq (tgt := 32) cx d_Mo_pass_13 (by decide) (fun b5 => ?_) (fun b5 => ?_)
    · have h := er_ift h b5
      refine er_iconst (v := -1) cx d_Mo_pass_32 rfl (by decide) ?_
      obtain rfl := Option.some.inj h
      exact er_iret rt (Or.inl rfl) d_Mo_pass_33 (by decide) (by decide) ⟨rfl, rfl, rfl⟩
    · have h := er_iff h b5
      refine er_iload_n cx d_Mo_pass_16 1 rfl ?_
      refine er_iload_n cx d_Mo_pass_17 2 rfl ?_
      refine er_ic_eq (tgt := 32) cx d_Mo_pass_18 (by decide) (fun b7 => ?_) (fun b7 => ?_)
      · have h := er_ift h b7
        refine er_iconst (v := -1) cx d_Mo_pass_32 rfl (by decide) ?_
        obtain rfl := Option.some.inj h
        exact er_iret rt (Or.inl rfl) d_Mo_pass_33 (by decide) (by decide) ⟨rfl, rfl, rfl⟩
      · have h := er_iff h b7
        refine er_iload_n cx d_Mo_pass_21 3 rfl ?_
        refine er_iconst (v := 1) cx d_Mo_pass_22 rfl (by decide) ?_
        refine er_ic_lt (tgt := 32) cx d_Mo_pass_23 (by decide) (fun b9 => ?_) (fun b9 => ?_)
        · have h := er_ift h b9
          refine er_iconst (v := -1) cx d_Mo_pass_32 rfl (by decide) ?_
          obtain rfl := Option.some.inj h
          exact er_iret rt (Or.inl rfl) d_Mo_pass_33 (by decide) (by decide) ⟨rfl, rfl, rfl⟩
        · have h := er_iff h b9
          refine er_iload_n cx d_Mo_pass_26 3 rfl ?_
          refine er_bipush (v := 100) cx d_Mo_pass_27 (by decide +kernel) (by decide) ?_
          refine er_ic_le (tgt := 34) cx d_Mo_pass_29 (by decide) (fun b11 => ?_) (fun b11 => ?_)
          · have h := er_ift h b11
            refine er_iconst (v := 0) cx d_Mo_pass_34 rfl (by decide) ?_
            refine er_istore cx d_Mo_pass_35 (by decide) rfl ?_
            refine er_sb cx [1, 2, 3, 4, 0] rfl ?_
            exact w_Mo_pass_37 cx rt er_fu _ _ _ _ _ _ h
          · have h := er_iff h b11
            refine er_iconst (v := -1) cx d_Mo_pass_32 rfl (by decide) ?_
            obtain rfl := Option.some.inj h
            exact er_iret rt (Or.inl rfl) d_Mo_pass_33 (by decide) (by decide) ⟨rfl, rfl, rfl⟩
theorem c_Mo_pass {l : Launch} {X : er_X} {r : Int × er_Me} {p0 p1 p2 p3 : Int} {T M : er_Me} (h : f_Mo_pass p0 p1 p2 p3 T M = some r) (hok : ∀ v ∈ ([.inr p0, .inl p1, .inl p2, .inl p3] : List er_V), er_ok v) : er_Ct l X y_Mo_pass b_Mo_pass 5 (some .int) rm_Mo_pass [.inr p0, .inl p1, .inl p2, .inl p3] T M (some (.inl r.1)) T r.2 :=
  er_ct rfl rfl (Nat.le_of_ble_eq_true rfl) hok (fun K cx rt hin => w_Mo_pass cx rt h)
/-! Mo_forge -/
abbrev rm_Mo_forge : Room := { frames := 6, cells := 0, slots := 0, locals := 145 }
def f_Mo_forge (p0 p1 p2 p3 p4 p5 : Int) (T M : er_Me) : Option (Int × er_Me) :=
  if T p0 (-2) = 7 then
  (f_Mo_isNode p0 p1 T M).bind fun q1 =>
  if q1.1 = 0 then
  some (0, q1.2)
  else
  if 0 < T p0 2 then
  if T (T p0 2) (-2) = 102 ∧ 0 ≤ p1 ∧ p1 < T (T p0 2) (-1) then
  if q1.2 (T p0 2) p1 = 0 then
  some (0, q1.2)
  else
  (f_Mo_well p0 p2 T q1.2).bind fun q8 =>
  if q8.1 = 0 then
  some (0, q8.2)
  else
  if p3 < 0 then
  some (0, q8.2)
  else
  if 8 < p3 then
  some (0, q8.2)
  else
  (f_Mo_isNode p0 p4 T q8.2).bind fun q15 =>
  if q15.1 = 0 then
  some (0, q15.2)
  else
  if p5 < 0 then
  some (0, q15.2)
  else
  if p5 ≤ 11 then
  (f_Mo_receive p0 p2 p1 (er_div p5 4) p3 p4 (er_rem p5 4) T q15.2).bind fun q21 =>
  (f_Mo_settle p0 p2 T q21.2).bind fun q22 =>
  if q21.1 = 0 ∨ q21.1 = 1 then some (q21.1, q22) else none
  else
  some (0, q15.2) else none else none else none
set_option maxHeartbeats 4000000 in
theorem w_Mo_forge {K : er_K} {l : Launch} {X : er_X} (cx : er_Cx K l X b_Mo_forge "EchoedRoundsModel" 7 rm_Mo_forge) {r : Int × er_Me} {p0 p1 p2 p3 p4 p5 : Int} {T M : er_Me} (rt : er_Rt K X b_Mo_forge (some .boolean) 0 0 (some (.inl r.1)) T r.2) (h : f_Mo_forge p0 p1 p2 p3 p4 p5 T M = some r) : er_G K 0 0 T M 0 [(0, .inr p0), (1, .inl p1), (2, .inl p2), (3, .inl p3), (4, .inl p4), (5, .inl p5)] [] := by
  unfold f_Mo_forge at h
  refine er_aload_n cx d_Mo_forge_0 0 rfl ?_
  refine er_iload_n cx d_Mo_forge_1 1 rfl ?_
  obtain ⟨c1, h⟩ := er_ck h
  obtain ⟨q1, e1, h⟩ := er_bd h
  refine er_callV (b := p0) (As := [.inl p1]) (st := []) cx (c_Mo_isNode e1) my_Mo_66 c1 ⟨by decide, by decide⟩ rfl (Nat.le_of_ble_eq_true rfl) d_Mo_forge_2 ⟨Nat.zero_le _, Nat.zero_le _⟩ rfl ?_
  refine er_if_eq (tgt := 56) cx d_Mo_forge_5 (by decide) (fun b2 => ?_) (fun b2 => ?_)
  · have h := er_ift h b2
    refine er_iconst (v := 0) cx d_Mo_forge_56 rfl (by decide) ?_
    obtain rfl := Option.some.inj h
    exact er_iret rt (Or.inr ⟨rfl, Or.inl rfl⟩) d_Mo_forge_57 (by decide) (by decide) ⟨rfl, rfl, rfl⟩
  · have h := er_iff h b2
    refine er_aload_n cx d_Mo_forge_8 0 rfl ?_
    obtain ⟨c4, h⟩ := er_ck h
    refine er_getr cx d_Mo_forge_9 fd_Mo_7 c1 c4 ?_
    refine er_iload_n cx d_Mo_forge_12 1 rfl ?_
    obtain ⟨c5, h⟩ := er_ck h
    refine er_zald cx d_Mo_forge_13 c5.1 c5.2.1 c5.2.2 ?_
    refine er_if_eq (tgt := 56) cx d_Mo_forge_14 (by decide) (fun b6 => ?_) (fun b6 => ?_)
    · have h := er_ift h b6
      refine er_iconst (v := 0) cx d_Mo_forge_56 rfl (by decide) ?_
      obtain rfl := Option.some.inj h
      exact er_iret rt (Or.inr ⟨rfl, Or.inl rfl⟩) d_Mo_forge_57 (by decide) (by decide) ⟨rfl, rfl, rfl⟩
    · have h := er_iff h b6
      refine er_aload_n cx d_Mo_forge_17 0 rfl ?_
      refine er_iload_n cx d_Mo_forge_18 2 rfl ?_
      obtain ⟨q8, e8, h⟩ := er_bd h
      refine er_callV (b := p0) (As := [.inl p2]) (st := []) cx (c_Mo_well e8) my_Mo_115 c1 ⟨by decide, by decide⟩ rfl (Nat.le_of_ble_eq_true rfl) d_Mo_forge_19 ⟨Nat.zero_le _, Nat.zero_le _⟩ rfl ?_
      refine er_if_eq (tgt := 56) cx d_Mo_forge_22 (by decide) (fun b9 => ?_) (fun b9 => ?_)
      · have h := er_ift h b9
        refine er_iconst (v := 0) cx d_Mo_forge_56 rfl (by decide) ?_
        obtain rfl := Option.some.inj h
        exact er_iret rt (Or.inr ⟨rfl, Or.inl rfl⟩) d_Mo_forge_57 (by decide) (by decide) ⟨rfl, rfl, rfl⟩
      · have h := er_iff h b9
        refine er_iload_n cx d_Mo_forge_25 3 rfl ?_
        refine er_if_lt (tgt := 56) cx d_Mo_forge_26 (by decide) (fun b11 => ?_) (fun b11 => ?_)
        · have h := er_ift h b11
          refine er_iconst (v := 0) cx d_Mo_forge_56 rfl (by decide) ?_
          obtain rfl := Option.some.inj h
          exact er_iret rt (Or.inr ⟨rfl, Or.inl rfl⟩) d_Mo_forge_57 (by decide) (by decide) ⟨rfl, rfl, rfl⟩
        · have h := er_iff h b11
          refine er_iload_n cx d_Mo_forge_29 3 rfl ?_
          refine er_bipush (v := 8) cx d_Mo_forge_30 (by decide +kernel) (by decide) ?_
          refine er_ic_gt (tgt := 56) cx d_Mo_forge_32 (by decide) (fun b13 => ?_) (fun b13 => ?_)
          · have h := er_ift h b13
            refine er_iconst (v := 0) cx d_Mo_forge_56 rfl (by decide) ?_
            obtain rfl := Option.some.inj h
            exact er_iret rt (Or.inr ⟨rfl, Or.inl rfl⟩) d_Mo_forge_57 (by decide) (by decide) ⟨rfl, rfl, rfl⟩
          · have h := er_iff h b13
            refine er_aload_n cx d_Mo_forge_35 0 rfl ?_
            refine er_iload cx d_Mo_forge_36 4 rfl ?_
            obtain ⟨q15, e15, h⟩ := er_bd h
            refine er_callV (b := p0) (As := [.inl p4]) (st := []) cx (c_Mo_isNode e15) my_Mo_66 c1 ⟨by decide, by decide⟩ rfl (Nat.le_of_ble_eq_true rfl) d_Mo_forge_38 ⟨Nat.zero_le _, Nat.zero_le _⟩ rfl ?_
            refine er_if_eq (tgt := 56) cx d_Mo_forge_41 (by decide) (fun b16 => ?_) (fun b16 => ?_)
            · have h := er_ift h b16
              refine er_iconst (v := 0) cx d_Mo_forge_56 rfl (by decide) ?_
              obtain rfl := Option.some.inj h
              exact er_iret rt (Or.inr ⟨rfl, Or.inl rfl⟩) d_Mo_forge_57 (by decide) (by decide) ⟨rfl, rfl, rfl⟩
            · have h := er_iff h b16
              refine er_iload cx d_Mo_forge_44 5 rfl ?_
              refine er_if_lt (tgt := 56) cx d_Mo_forge_46 (by decide) (fun b18 => ?_) (fun b18 => ?_)
              · have h := er_ift h b18
                refine er_iconst (v := 0) cx d_Mo_forge_56 rfl (by decide) ?_
                obtain rfl := Option.some.inj h
                exact er_iret rt (Or.inr ⟨rfl, Or.inl rfl⟩) d_Mo_forge_57 (by decide) (by decide) ⟨rfl, rfl, rfl⟩
              · have h := er_iff h b18
                refine er_iload cx d_Mo_forge_49 5 rfl ?_
                refine er_bipush (v := 11) cx d_Mo_forge_51 (by decide +kernel) (by decide) ?_
                refine er_ic_le (tgt := 58) cx d_Mo_forge_53 (by decide) (fun b20 => ?_) (fun b20 => ?_)
                · have h := er_ift h b20
                  refine er_aload_n cx d_Mo_forge_58 0 rfl ?_
                  refine er_iload_n cx d_Mo_forge_59 2 rfl ?_
                  refine er_iload_n cx d_Mo_forge_60 1 rfl ?_
                  refine er_iload cx d_Mo_forge_61 5 rfl ?_
                  refine er_iconst (v := 4) cx d_Mo_forge_63 rfl (by decide) ?_
                  refine er_idiv cx d_Mo_forge_64 (by decide) ?_
                  refine er_iload_n cx d_Mo_forge_65 3 rfl ?_
                  refine er_iload cx d_Mo_forge_66 4 rfl ?_
                  refine er_iload cx d_Mo_forge_68 5 rfl ?_
                  refine er_iconst (v := 4) cx d_Mo_forge_70 rfl (by decide) ?_
                  refine er_irem cx d_Mo_forge_71 (by decide) ?_
                  obtain ⟨q21, e21, h⟩ := er_bd h
                  refine er_callV (b := p0) (As := [.inl p2, .inl p1, .inl (er_div p5 4), .inl p3, .inl p4, .inl (er_rem p5 4)]) (st := []) cx (c_Mo_receive e21) my_Mo_82 c1 ⟨by decide, by decide⟩ rfl (Nat.le_of_ble_eq_true rfl) d_Mo_forge_72 ⟨Nat.zero_le _, Nat.zero_le _⟩ rfl ?_
                  refine er_istore cx d_Mo_forge_75 (by decide) rfl ?_
                  refine er_aload_n cx d_Mo_forge_77 1 rfl ?_
                  refine er_iload_n cx d_Mo_forge_78 3 rfl ?_
                  obtain ⟨q22, e22, h⟩ := er_bd h
                  refine er_callV (b := p0) (As := [.inl p2]) (st := []) cx (c_Mo_settle e22) my_Mo_118 c1 ⟨by decide, by decide⟩ rfl (Nat.le_of_ble_eq_true rfl) d_Mo_forge_79 ⟨Nat.zero_le _, Nat.zero_le _⟩ rfl ?_
                  refine er_iload cx d_Mo_forge_82 0 rfl ?_
                  obtain ⟨c23, h⟩ := er_ck h
                  obtain rfl := Option.some.inj h
                  exact er_iret rt (Or.inr ⟨rfl, c23⟩) d_Mo_forge_84 (by decide) (by decide) ⟨rfl, rfl, rfl⟩
                · have h := er_iff h b20
                  refine er_iconst (v := 0) cx d_Mo_forge_56 rfl (by decide) ?_
                  obtain rfl := Option.some.inj h
                  exact er_iret rt (Or.inr ⟨rfl, Or.inl rfl⟩) d_Mo_forge_57 (by decide) (by decide) ⟨rfl, rfl, rfl⟩
theorem c_Mo_forge {l : Launch} {X : er_X} {r : Int × er_Me} {p0 p1 p2 p3 p4 p5 : Int} {T M : er_Me} (h : f_Mo_forge p0 p1 p2 p3 p4 p5 T M = some r) (hok : ∀ v ∈ ([.inr p0, .inl p1, .inl p2, .inl p3, .inl p4, .inl p5] : List er_V), er_ok v) : er_Ct l X y_Mo_forge b_Mo_forge 7 (some .boolean) rm_Mo_forge [.inr p0, .inl p1, .inl p2, .inl p3, .inl p4, .inl p5] T M (some (.inl r.1)) T r.2 :=
  er_ct rfl rfl (Nat.le_of_ble_eq_true rfl) hok (fun K cx rt hin => w_Mo_forge cx rt h)
end
