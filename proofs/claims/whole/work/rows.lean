section
-- ===== PART A: goes FIRST, ahead of the names: the tables' words, and 'selects' of the private methods out of them =====
/-- a private method of a class that the tables say can be made, by its rows of tables_1 -/
def lw_okq (q : MethodName × Nat) : Prop := (q.1.cls ≠ "java/lang/invoke/MethodHandle" ∧ q.1.cls ≠ "java/lang/invoke/VarHandle") ∧ Cond.instantiable q.1.cls q.2 ∈ tables_1 ∧ Cond.privateMethod q.1 ∈ tables_1 ∧ Cond.instanceMethod q.1 ∈ tables_1
theorem lw_p0 : lw_okq (⟨"CoalescedCalls$History", "prepare", "(LCoalescedCalls$Card;)V"⟩, 3) := ⟨⟨by decide +kernel, by decide +kernel⟩, List.mem_of_getElem? (i := 120) (by decide +kernel), List.mem_of_getElem? (i := 204) (by decide +kernel), List.mem_of_getElem? (i := 205) (by decide +kernel)⟩
theorem lw_p1 : lw_okq (⟨"CoalescedCalls$Card", "copyFrom", "(LCoalescedCalls$Card;)V"⟩, 8) := ⟨⟨by decide +kernel, by decide +kernel⟩, List.mem_of_getElem? (i := 18) (by decide +kernel), List.mem_of_getElem? (i := 208) (by decide +kernel), List.mem_of_getElem? (i := 209) (by decide +kernel)⟩
theorem lw_p2 : lw_okq (⟨"CoalescedCalls$Queue", "copyFrom", "(LCoalescedCalls$Queue;)V"⟩, 13) := ⟨⟨by decide +kernel, by decide +kernel⟩, List.mem_of_getElem? (i := 30) (by decide +kernel), List.mem_of_getElem? (i := 212) (by decide +kernel), List.mem_of_getElem? (i := 213) (by decide +kernel)⟩
theorem lw_p3 : lw_okq (⟨"CoalescedCalls$Card", "changeSetting", "(II)I"⟩, 8) := ⟨⟨by decide +kernel, by decide +kernel⟩, List.mem_of_getElem? (i := 18) (by decide +kernel), List.mem_of_getElem? (i := 216) (by decide +kernel), List.mem_of_getElem? (i := 217) (by decide +kernel)⟩
theorem lw_p4 : lw_okq (⟨"CoalescedCalls$History", "keepIfDone", "(I)I"⟩, 3) := ⟨⟨by decide +kernel, by decide +kernel⟩, List.mem_of_getElem? (i := 120) (by decide +kernel), List.mem_of_getElem? (i := 224) (by decide +kernel), List.mem_of_getElem? (i := 225) (by decide +kernel)⟩
theorem lw_p5 : lw_okq (⟨"CoalescedCalls$Card", "changeBounds", "(III)I"⟩, 8) := ⟨⟨by decide +kernel, by decide +kernel⟩, List.mem_of_getElem? (i := 18) (by decide +kernel), List.mem_of_getElem? (i := 235) (by decide +kernel), List.mem_of_getElem? (i := 236) (by decide +kernel)⟩
theorem lw_p6 : lw_okq (⟨"CoalescedCalls$Card", "receive", "(I)I"⟩, 8) := ⟨⟨by decide +kernel, by decide +kernel⟩, List.mem_of_getElem? (i := 18) (by decide +kernel), List.mem_of_getElem? (i := 246) (by decide +kernel), List.mem_of_getElem? (i := 247) (by decide +kernel)⟩
theorem lw_p7 : lw_okq (⟨"CoalescedCalls$Card", "changeMask", "(I)I"⟩, 8) := ⟨⟨by decide +kernel, by decide +kernel⟩, List.mem_of_getElem? (i := 18) (by decide +kernel), List.mem_of_getElem? (i := 254) (by decide +kernel), List.mem_of_getElem? (i := 255) (by decide +kernel)⟩
theorem lw_p8 : lw_okq (⟨"CoalescedCalls$Card", "callByHand", "(I)I"⟩, 8) := ⟨⟨by decide +kernel, by decide +kernel⟩, List.mem_of_getElem? (i := 18) (by decide +kernel), List.mem_of_getElem? (i := 262) (by decide +kernel), List.mem_of_getElem? (i := 263) (by decide +kernel)⟩
theorem lw_p9 : lw_okq (⟨"CoalescedCalls$Queue", "isCalled", "()Z"⟩, 13) := ⟨⟨by decide +kernel, by decide +kernel⟩, List.mem_of_getElem? (i := 30) (by decide +kernel), List.mem_of_getElem? (i := 266) (by decide +kernel), List.mem_of_getElem? (i := 267) (by decide +kernel)⟩
theorem lw_p10 : lw_okq (⟨"CoalescedCalls$Card", "enterRow", "(LCoalescedCalls$Queue;)V"⟩, 8) := ⟨⟨by decide +kernel, by decide +kernel⟩, List.mem_of_getElem? (i := 18) (by decide +kernel), List.mem_of_getElem? (i := 270) (by decide +kernel), List.mem_of_getElem? (i := 271) (by decide +kernel)⟩
theorem lw_p11 : lw_okq (⟨"CoalescedCalls$Card", "rowLength", "()I"⟩, 8) := ⟨⟨by decide +kernel, by decide +kernel⟩, List.mem_of_getElem? (i := 18) (by decide +kernel), List.mem_of_getElem? (i := 274) (by decide +kernel), List.mem_of_getElem? (i := 275) (by decide +kernel)⟩
theorem lw_p12 : lw_okq (⟨"CoalescedCalls$Card", "passTicks", "(I)I"⟩, 8) := ⟨⟨by decide +kernel, by decide +kernel⟩, List.mem_of_getElem? (i := 18) (by decide +kernel), List.mem_of_getElem? (i := 282) (by decide +kernel), List.mem_of_getElem? (i := 283) (by decide +kernel)⟩
theorem lw_p13 : lw_okq (⟨"CoalescedCalls$Card", "runTicks", "(I)I"⟩, 8) := ⟨⟨by decide +kernel, by decide +kernel⟩, List.mem_of_getElem? (i := 18) (by decide +kernel), List.mem_of_getElem? (i := 286) (by decide +kernel), List.mem_of_getElem? (i := 287) (by decide +kernel)⟩
theorem lw_p14 : lw_okq (⟨"CoalescedCalls$Card", "tick", "()I"⟩, 8) := ⟨⟨by decide +kernel, by decide +kernel⟩, List.mem_of_getElem? (i := 18) (by decide +kernel), List.mem_of_getElem? (i := 290) (by decide +kernel), List.mem_of_getElem? (i := 291) (by decide +kernel)⟩
theorem lw_p15 : lw_okq (⟨"CoalescedCalls$Card", "poll", "()I"⟩, 8) := ⟨⟨by decide +kernel, by decide +kernel⟩, List.mem_of_getElem? (i := 18) (by decide +kernel), List.mem_of_getElem? (i := 294) (by decide +kernel), List.mem_of_getElem? (i := 295) (by decide +kernel)⟩
def lw_privs_1 : List (MethodName × Nat) := [(⟨"CoalescedCalls$History", "prepare", "(LCoalescedCalls$Card;)V"⟩, 3), (⟨"CoalescedCalls$Card", "copyFrom", "(LCoalescedCalls$Card;)V"⟩, 8), (⟨"CoalescedCalls$Queue", "copyFrom", "(LCoalescedCalls$Queue;)V"⟩, 13), (⟨"CoalescedCalls$Card", "changeSetting", "(II)I"⟩, 8), (⟨"CoalescedCalls$History", "keepIfDone", "(I)I"⟩, 3), (⟨"CoalescedCalls$Card", "changeBounds", "(III)I"⟩, 8), (⟨"CoalescedCalls$Card", "receive", "(I)I"⟩, 8), (⟨"CoalescedCalls$Card", "changeMask", "(I)I"⟩, 8), (⟨"CoalescedCalls$Card", "callByHand", "(I)I"⟩, 8), (⟨"CoalescedCalls$Queue", "isCalled", "()Z"⟩, 13), (⟨"CoalescedCalls$Card", "enterRow", "(LCoalescedCalls$Queue;)V"⟩, 8), (⟨"CoalescedCalls$Card", "rowLength", "()I"⟩, 8), (⟨"CoalescedCalls$Card", "passTicks", "(I)I"⟩, 8), (⟨"CoalescedCalls$Card", "runTicks", "(I)I"⟩, 8), (⟨"CoalescedCalls$Card", "tick", "()I"⟩, 8), (⟨"CoalescedCalls$Card", "poll", "()I"⟩, 8)]
theorem lw_r1 : ∀ q ∈ lw_privs_1, lw_okq q := List.forall_mem_cons.mpr ⟨lw_p0, List.forall_mem_cons.mpr ⟨lw_p1, List.forall_mem_cons.mpr ⟨lw_p2, List.forall_mem_cons.mpr ⟨lw_p3, List.forall_mem_cons.mpr ⟨lw_p4, List.forall_mem_cons.mpr ⟨lw_p5, List.forall_mem_cons.mpr ⟨lw_p6, List.forall_mem_cons.mpr ⟨lw_p7, List.forall_mem_cons.mpr ⟨lw_p8, List.forall_mem_cons.mpr ⟨lw_p9, List.forall_mem_cons.mpr ⟨lw_p10, List.forall_mem_cons.mpr ⟨lw_p11, List.forall_mem_cons.mpr ⟨lw_p12, List.forall_mem_cons.mpr ⟨lw_p13, List.forall_mem_cons.mpr ⟨lw_p14, List.forall_mem_cons.mpr ⟨lw_p15, fun _ h => absurd h List.not_mem_nil⟩⟩⟩⟩⟩⟩⟩⟩⟩⟩⟩⟩⟩⟩⟩⟩
theorem lw_p16 : lw_okq (⟨"CoalescedCalls$Card", "queueAt", "(I)I"⟩, 8) := ⟨⟨by decide +kernel, by decide +kernel⟩, List.mem_of_getElem? (i := 18) (by decide +kernel), List.mem_of_getElem? (i := 298) (by decide +kernel), List.mem_of_getElem? (i := 299) (by decide +kernel)⟩
theorem lw_p17 : lw_okq (⟨"CoalescedCalls$Card", "hasFrame", "(I)Z"⟩, 8) := ⟨⟨by decide +kernel, by decide +kernel⟩, List.mem_of_getElem? (i := 18) (by decide +kernel), List.mem_of_getElem? (i := 302) (by decide +kernel), List.mem_of_getElem? (i := 303) (by decide +kernel)⟩
theorem lw_p18 : lw_okq (⟨"CoalescedCalls$Card", "takeOldest", "(LCoalescedCalls$Queue;I)V"⟩, 8) := ⟨⟨by decide +kernel, by decide +kernel⟩, List.mem_of_getElem? (i := 18) (by decide +kernel), List.mem_of_getElem? (i := 306) (by decide +kernel), List.mem_of_getElem? (i := 307) (by decide +kernel)⟩
theorem lw_p19 : lw_okq (⟨"CoalescedCalls$Queue", "noteTaken", "(I)V"⟩, 13) := ⟨⟨by decide +kernel, by decide +kernel⟩, List.mem_of_getElem? (i := 30) (by decide +kernel), List.mem_of_getElem? (i := 310) (by decide +kernel), List.mem_of_getElem? (i := 311) (by decide +kernel)⟩
theorem lw_p20 : lw_okq (⟨"CoalescedCalls$Card", "leaveRow", "(LCoalescedCalls$Queue;)V"⟩, 8) := ⟨⟨by decide +kernel, by decide +kernel⟩, List.mem_of_getElem? (i := 18) (by decide +kernel), List.mem_of_getElem? (i := 317) (by decide +kernel), List.mem_of_getElem? (i := 318) (by decide +kernel)⟩
theorem lw_p21 : lw_okq (⟨"CoalescedCalls$Queue", "becomeIdle", "(Z)V"⟩, 13) := ⟨⟨by decide +kernel, by decide +kernel⟩, List.mem_of_getElem? (i := 30) (by decide +kernel), List.mem_of_getElem? (i := 321) (by decide +kernel), List.mem_of_getElem? (i := 322) (by decide +kernel)⟩
theorem lw_p22 : lw_okq (⟨"CoalescedCalls$Card", "whySilent", "(LCoalescedCalls$Queue;)I"⟩, 8) := ⟨⟨by decide +kernel, by decide +kernel⟩, List.mem_of_getElem? (i := 18) (by decide +kernel), List.mem_of_getElem? (i := 326) (by decide +kernel), List.mem_of_getElem? (i := 327) (by decide +kernel)⟩
theorem lw_p23 : lw_okq (⟨"CoalescedCalls$Queue", "fact", "(I)I"⟩, 13) := ⟨⟨by decide +kernel, by decide +kernel⟩, List.mem_of_getElem? (i := 30) (by decide +kernel), List.mem_of_getElem? (i := 335) (by decide +kernel), List.mem_of_getElem? (i := 336) (by decide +kernel)⟩
theorem lw_p24 : lw_okq (⟨"CoalescedCalls$Card", "frameFact", "(II)I"⟩, 8) := ⟨⟨by decide +kernel, by decide +kernel⟩, List.mem_of_getElem? (i := 18) (by decide +kernel), List.mem_of_getElem? (i := 345) (by decide +kernel), List.mem_of_getElem? (i := 346) (by decide +kernel)⟩
theorem lw_p25 : lw_okq (⟨"CoalescedCalls$Card", "waitOf", "(I)I"⟩, 8) := ⟨⟨by decide +kernel, by decide +kernel⟩, List.mem_of_getElem? (i := 18) (by decide +kernel), List.mem_of_getElem? (i := 349) (by decide +kernel), List.mem_of_getElem? (i := 350) (by decide +kernel)⟩
theorem lw_p26 : lw_okq (⟨"CoalescedCalls$Card", "total", "(I)I"⟩, 8) := ⟨⟨by decide +kernel, by decide +kernel⟩, List.mem_of_getElem? (i := 18) (by decide +kernel), List.mem_of_getElem? (i := 362) (by decide +kernel), List.mem_of_getElem? (i := 363) (by decide +kernel)⟩
theorem lw_p27 : lw_okq (⟨"CoalescedCalls$Card", "maskedSet", "()I"⟩, 8) := ⟨⟨by decide +kernel, by decide +kernel⟩, List.mem_of_getElem? (i := 18) (by decide +kernel), List.mem_of_getElem? (i := 367) (by decide +kernel), List.mem_of_getElem? (i := 368) (by decide +kernel)⟩
theorem lw_p28 : lw_okq (⟨"CoalescedCalls", "trialCost", "(III)I"⟩, 6) := ⟨⟨by decide +kernel, by decide +kernel⟩, List.mem_of_getElem? (i := 10) (by decide +kernel), List.mem_of_getElem? (i := 391) (by decide +kernel), List.mem_of_getElem? (i := 392) (by decide +kernel)⟩
theorem lw_p29 : lw_okq (⟨"CoalescedCalls$Card", "emptyLike", "(LCoalescedCalls$Card;)V"⟩, 8) := ⟨⟨by decide +kernel, by decide +kernel⟩, List.mem_of_getElem? (i := 18) (by decide +kernel), List.mem_of_getElem? (i := 395) (by decide +kernel), List.mem_of_getElem? (i := 396) (by decide +kernel)⟩
theorem lw_p30 : lw_okq (⟨"CoalescedCalls$Queue", "emptyLike", "(LCoalescedCalls$Queue;)V"⟩, 13) := ⟨⟨by decide +kernel, by decide +kernel⟩, List.mem_of_getElem? (i := 30) (by decide +kernel), List.mem_of_getElem? (i := 399) (by decide +kernel), List.mem_of_getElem? (i := 400) (by decide +kernel)⟩
theorem lw_p31 : lw_okq (⟨"CoalescedCalls$Pad", "append", "(J)I"⟩, 9) := ⟨⟨by decide +kernel, by decide +kernel⟩, List.mem_of_getElem? (i := 140) (by decide +kernel), List.mem_of_getElem? (i := 407) (by decide +kernel), List.mem_of_getElem? (i := 408) (by decide +kernel)⟩
def lw_privs_2 : List (MethodName × Nat) := [(⟨"CoalescedCalls$Card", "queueAt", "(I)I"⟩, 8), (⟨"CoalescedCalls$Card", "hasFrame", "(I)Z"⟩, 8), (⟨"CoalescedCalls$Card", "takeOldest", "(LCoalescedCalls$Queue;I)V"⟩, 8), (⟨"CoalescedCalls$Queue", "noteTaken", "(I)V"⟩, 13), (⟨"CoalescedCalls$Card", "leaveRow", "(LCoalescedCalls$Queue;)V"⟩, 8), (⟨"CoalescedCalls$Queue", "becomeIdle", "(Z)V"⟩, 13), (⟨"CoalescedCalls$Card", "whySilent", "(LCoalescedCalls$Queue;)I"⟩, 8), (⟨"CoalescedCalls$Queue", "fact", "(I)I"⟩, 13), (⟨"CoalescedCalls$Card", "frameFact", "(II)I"⟩, 8), (⟨"CoalescedCalls$Card", "waitOf", "(I)I"⟩, 8), (⟨"CoalescedCalls$Card", "total", "(I)I"⟩, 8), (⟨"CoalescedCalls$Card", "maskedSet", "()I"⟩, 8), (⟨"CoalescedCalls", "trialCost", "(III)I"⟩, 6), (⟨"CoalescedCalls$Card", "emptyLike", "(LCoalescedCalls$Card;)V"⟩, 8), (⟨"CoalescedCalls$Queue", "emptyLike", "(LCoalescedCalls$Queue;)V"⟩, 13), (⟨"CoalescedCalls$Pad", "append", "(J)I"⟩, 9)]
theorem lw_r2 : ∀ q ∈ lw_privs_2, lw_okq q := List.forall_mem_cons.mpr ⟨lw_p16, List.forall_mem_cons.mpr ⟨lw_p17, List.forall_mem_cons.mpr ⟨lw_p18, List.forall_mem_cons.mpr ⟨lw_p19, List.forall_mem_cons.mpr ⟨lw_p20, List.forall_mem_cons.mpr ⟨lw_p21, List.forall_mem_cons.mpr ⟨lw_p22, List.forall_mem_cons.mpr ⟨lw_p23, List.forall_mem_cons.mpr ⟨lw_p24, List.forall_mem_cons.mpr ⟨lw_p25, List.forall_mem_cons.mpr ⟨lw_p26, List.forall_mem_cons.mpr ⟨lw_p27, List.forall_mem_cons.mpr ⟨lw_p28, List.forall_mem_cons.mpr ⟨lw_p29, List.forall_mem_cons.mpr ⟨lw_p30, List.forall_mem_cons.mpr ⟨lw_p31, fun _ h => absurd h List.not_mem_nil⟩⟩⟩⟩⟩⟩⟩⟩⟩⟩⟩⟩⟩⟩⟩⟩
theorem lw_p32 : lw_okq (⟨"CoalescedCalls$Pad", "clear", "()I"⟩, 9) := ⟨⟨by decide +kernel, by decide +kernel⟩, List.mem_of_getElem? (i := 140) (by decide +kernel), List.mem_of_getElem? (i := 421) (by decide +kernel), List.mem_of_getElem? (i := 422) (by decide +kernel)⟩
theorem lw_p33 : lw_okq (⟨"CoalescedCalls$Pad", "firstFault", "()I"⟩, 9) := ⟨⟨by decide +kernel, by decide +kernel⟩, List.mem_of_getElem? (i := 140) (by decide +kernel), List.mem_of_getElem? (i := 429) (by decide +kernel), List.mem_of_getElem? (i := 430) (by decide +kernel)⟩
theorem lw_p34 : lw_okq (⟨"CoalescedCalls$Pad", "startReading", "()V"⟩, 9) := ⟨⟨by decide +kernel, by decide +kernel⟩, List.mem_of_getElem? (i := 140) (by decide +kernel), List.mem_of_getElem? (i := 433) (by decide +kernel), List.mem_of_getElem? (i := 434) (by decide +kernel)⟩
theorem lw_p35 : lw_okq (⟨"CoalescedCalls$Pad", "readOrder", "()Z"⟩, 9) := ⟨⟨by decide +kernel, by decide +kernel⟩, List.mem_of_getElem? (i := 140) (by decide +kernel), List.mem_of_getElem? (i := 437) (by decide +kernel), List.mem_of_getElem? (i := 438) (by decide +kernel)⟩
theorem lw_p36 : lw_okq (⟨"CoalescedCalls$Pad", "readSign", "(C)Z"⟩, 9) := ⟨⟨by decide +kernel, by decide +kernel⟩, List.mem_of_getElem? (i := 140) (by decide +kernel), List.mem_of_getElem? (i := 441) (by decide +kernel), List.mem_of_getElem? (i := 442) (by decide +kernel)⟩
theorem lw_p37 : lw_okq (⟨"CoalescedCalls$Pad", "readFrames", "()V"⟩, 9) := ⟨⟨by decide +kernel, by decide +kernel⟩, List.mem_of_getElem? (i := 140) (by decide +kernel), List.mem_of_getElem? (i := 445) (by decide +kernel), List.mem_of_getElem? (i := 446) (by decide +kernel)⟩
theorem lw_p38 : lw_okq (⟨"CoalescedCalls$Pad", "readNumber", "()I"⟩, 9) := ⟨⟨by decide +kernel, by decide +kernel⟩, List.mem_of_getElem? (i := 140) (by decide +kernel), List.mem_of_getElem? (i := 449) (by decide +kernel), List.mem_of_getElem? (i := 450) (by decide +kernel)⟩
theorem lw_p39 : lw_okq (⟨"CoalescedCalls$Pad", "readDigit", "()I"⟩, 9) := ⟨⟨by decide +kernel, by decide +kernel⟩, List.mem_of_getElem? (i := 140) (by decide +kernel), List.mem_of_getElem? (i := 453) (by decide +kernel), List.mem_of_getElem? (i := 454) (by decide +kernel)⟩
theorem lw_p40 : lw_okq (⟨"CoalescedCalls$Pad", "digitStands", "()Z"⟩, 9) := ⟨⟨by decide +kernel, by decide +kernel⟩, List.mem_of_getElem? (i := 140) (by decide +kernel), List.mem_of_getElem? (i := 457) (by decide +kernel), List.mem_of_getElem? (i := 458) (by decide +kernel)⟩
theorem lw_p41 : lw_okq (⟨"CoalescedCalls$Pad", "readBounds", "()V"⟩, 9) := ⟨⟨by decide +kernel, by decide +kernel⟩, List.mem_of_getElem? (i := 140) (by decide +kernel), List.mem_of_getElem? (i := 461) (by decide +kernel), List.mem_of_getElem? (i := 462) (by decide +kernel)⟩
theorem lw_p42 : lw_okq (⟨"CoalescedCalls$Pad", "demand", "(C)V"⟩, 9) := ⟨⟨by decide +kernel, by decide +kernel⟩, List.mem_of_getElem? (i := 140) (by decide +kernel), List.mem_of_getElem? (i := 465) (by decide +kernel), List.mem_of_getElem? (i := 466) (by decide +kernel)⟩
theorem lw_p43 : lw_okq (⟨"CoalescedCalls", "carryOrder", "()I"⟩, 6) := ⟨⟨by decide +kernel, by decide +kernel⟩, List.mem_of_getElem? (i := 10) (by decide +kernel), List.mem_of_getElem? (i := 475) (by decide +kernel), List.mem_of_getElem? (i := 476) (by decide +kernel)⟩
theorem lw_p44 : lw_okq (⟨"CoalescedCalls$History", "goBack", "(LCoalescedCalls$Card;)I"⟩, 3) := ⟨⟨by decide +kernel, by decide +kernel⟩, List.mem_of_getElem? (i := 120) (by decide +kernel), List.mem_of_getElem? (i := 483) (by decide +kernel), List.mem_of_getElem? (i := 484) (by decide +kernel)⟩
theorem lw_p45 : lw_okq (⟨"CoalescedCallsModel", "lays", "(III)V"⟩, 11) := ⟨⟨by decide +kernel, by decide +kernel⟩, List.mem_of_getElem? (i := 498) (by decide +kernel), List.mem_of_getElem? (i := 504) (by decide +kernel), List.mem_of_getElem? (i := 505) (by decide +kernel)⟩
theorem lw_p46 : lw_okq (⟨"CoalescedCallsModel", "changes", "()V"⟩, 11) := ⟨⟨by decide +kernel, by decide +kernel⟩, List.mem_of_getElem? (i := 498) (by decide +kernel), List.mem_of_getElem? (i := 555) (by decide +kernel), List.mem_of_getElem? (i := 556) (by decide +kernel)⟩
theorem lw_p47 : lw_okq (⟨"CoalescedCallsModel", "doBounds", "(III)I"⟩, 11) := ⟨⟨by decide +kernel, by decide +kernel⟩, List.mem_of_getElem? (i := 498) (by decide +kernel), List.mem_of_getElem? (i := 571) (by decide +kernel), List.mem_of_getElem? (i := 572) (by decide +kernel)⟩
def lw_privs_3 : List (MethodName × Nat) := [(⟨"CoalescedCalls$Pad", "clear", "()I"⟩, 9), (⟨"CoalescedCalls$Pad", "firstFault", "()I"⟩, 9), (⟨"CoalescedCalls$Pad", "startReading", "()V"⟩, 9), (⟨"CoalescedCalls$Pad", "readOrder", "()Z"⟩, 9), (⟨"CoalescedCalls$Pad", "readSign", "(C)Z"⟩, 9), (⟨"CoalescedCalls$Pad", "readFrames", "()V"⟩, 9), (⟨"CoalescedCalls$Pad", "readNumber", "()I"⟩, 9), (⟨"CoalescedCalls$Pad", "readDigit", "()I"⟩, 9), (⟨"CoalescedCalls$Pad", "digitStands", "()Z"⟩, 9), (⟨"CoalescedCalls$Pad", "readBounds", "()V"⟩, 9), (⟨"CoalescedCalls$Pad", "demand", "(C)V"⟩, 9), (⟨"CoalescedCalls", "carryOrder", "()I"⟩, 6), (⟨"CoalescedCalls$History", "goBack", "(LCoalescedCalls$Card;)I"⟩, 3), (⟨"CoalescedCallsModel", "lays", "(III)V"⟩, 11), (⟨"CoalescedCallsModel", "changes", "()V"⟩, 11), (⟨"CoalescedCallsModel", "doBounds", "(III)I"⟩, 11)]
theorem lw_r3 : ∀ q ∈ lw_privs_3, lw_okq q := List.forall_mem_cons.mpr ⟨lw_p32, List.forall_mem_cons.mpr ⟨lw_p33, List.forall_mem_cons.mpr ⟨lw_p34, List.forall_mem_cons.mpr ⟨lw_p35, List.forall_mem_cons.mpr ⟨lw_p36, List.forall_mem_cons.mpr ⟨lw_p37, List.forall_mem_cons.mpr ⟨lw_p38, List.forall_mem_cons.mpr ⟨lw_p39, List.forall_mem_cons.mpr ⟨lw_p40, List.forall_mem_cons.mpr ⟨lw_p41, List.forall_mem_cons.mpr ⟨lw_p42, List.forall_mem_cons.mpr ⟨lw_p43, List.forall_mem_cons.mpr ⟨lw_p44, List.forall_mem_cons.mpr ⟨lw_p45, List.forall_mem_cons.mpr ⟨lw_p46, List.forall_mem_cons.mpr ⟨lw_p47, fun _ h => absurd h List.not_mem_nil⟩⟩⟩⟩⟩⟩⟩⟩⟩⟩⟩⟩⟩⟩⟩⟩
theorem lw_p48 : lw_okq (⟨"CoalescedCallsModel", "get", "(II)I"⟩, 11) := ⟨⟨by decide +kernel, by decide +kernel⟩, List.mem_of_getElem? (i := 498) (by decide +kernel), List.mem_of_getElem? (i := 575) (by decide +kernel), List.mem_of_getElem? (i := 576) (by decide +kernel)⟩
theorem lw_p49 : lw_okq (⟨"CoalescedCallsModel", "doCome", "(I)I"⟩, 11) := ⟨⟨by decide +kernel, by decide +kernel⟩, List.mem_of_getElem? (i := 498) (by decide +kernel), List.mem_of_getElem? (i := 583) (by decide +kernel), List.mem_of_getElem? (i := 584) (by decide +kernel)⟩
theorem lw_p50 : lw_okq (⟨"CoalescedCallsModel", "ring", "(I)I"⟩, 11) := ⟨⟨by decide +kernel, by decide +kernel⟩, List.mem_of_getElem? (i := 498) (by decide +kernel), List.mem_of_getElem? (i := 587) (by decide +kernel), List.mem_of_getElem? (i := 588) (by decide +kernel)⟩
theorem lw_p51 : lw_okq (⟨"CoalescedCallsModel", "isInRing", "(II)Z"⟩, 11) := ⟨⟨by decide +kernel, by decide +kernel⟩, List.mem_of_getElem? (i := 498) (by decide +kernel), List.mem_of_getElem? (i := 591) (by decide +kernel), List.mem_of_getElem? (i := 592) (by decide +kernel)⟩
theorem lw_p52 : lw_okq (⟨"CoalescedCallsModel", "frameAt", "(II)I"⟩, 11) := ⟨⟨by decide +kernel, by decide +kernel⟩, List.mem_of_getElem? (i := 498) (by decide +kernel), List.mem_of_getElem? (i := 595) (by decide +kernel), List.mem_of_getElem? (i := 596) (by decide +kernel)⟩
theorem lw_p53 : lw_okq (⟨"CoalescedCallsModel", "more", "(III)V"⟩, 11) := ⟨⟨by decide +kernel, by decide +kernel⟩, List.mem_of_getElem? (i := 498) (by decide +kernel), List.mem_of_getElem? (i := 599) (by decide +kernel), List.mem_of_getElem? (i := 600) (by decide +kernel)⟩
theorem lw_p54 : lw_okq (⟨"CoalescedCallsModel", "placeInRow", "(I)I"⟩, 11) := ⟨⟨by decide +kernel, by decide +kernel⟩, List.mem_of_getElem? (i := 498) (by decide +kernel), List.mem_of_getElem? (i := 611) (by decide +kernel), List.mem_of_getElem? (i := 612) (by decide +kernel)⟩
theorem lw_p55 : lw_okq (⟨"CoalescedCallsModel", "oldest", "(I)I"⟩, 11) := ⟨⟨by decide +kernel, by decide +kernel⟩, List.mem_of_getElem? (i := 498) (by decide +kernel), List.mem_of_getElem? (i := 615) (by decide +kernel), List.mem_of_getElem? (i := 616) (by decide +kernel)⟩
theorem lw_p56 : lw_okq (⟨"CoalescedCallsModel", "doCall", "(I)V"⟩, 11) := ⟨⟨by decide +kernel, by decide +kernel⟩, List.mem_of_getElem? (i := 498) (by decide +kernel), List.mem_of_getElem? (i := 619) (by decide +kernel), List.mem_of_getElem? (i := 620) (by decide +kernel)⟩
theorem lw_p57 : lw_okq (⟨"CoalescedCallsModel", "ticks", "(I)I"⟩, 11) := ⟨⟨by decide +kernel, by decide +kernel⟩, List.mem_of_getElem? (i := 498) (by decide +kernel), List.mem_of_getElem? (i := 630) (by decide +kernel), List.mem_of_getElem? (i := 631) (by decide +kernel)⟩
theorem lw_p58 : lw_okq (⟨"CoalescedCallsModel", "allOf", "(I)I"⟩, 11) := ⟨⟨by decide +kernel, by decide +kernel⟩, List.mem_of_getElem? (i := 498) (by decide +kernel), List.mem_of_getElem? (i := 634) (by decide +kernel), List.mem_of_getElem? (i := 635) (by decide +kernel)⟩
theorem lw_p59 : lw_okq (⟨"CoalescedCallsModel", "tick", "()V"⟩, 11) := ⟨⟨by decide +kernel, by decide +kernel⟩, List.mem_of_getElem? (i := 498) (by decide +kernel), List.mem_of_getElem? (i := 638) (by decide +kernel), List.mem_of_getElem? (i := 639) (by decide +kernel)⟩
theorem lw_p60 : lw_okq (⟨"CoalescedCallsModel", "polls", "()V"⟩, 11) := ⟨⟨by decide +kernel, by decide +kernel⟩, List.mem_of_getElem? (i := 498) (by decide +kernel), List.mem_of_getElem? (i := 642) (by decide +kernel), List.mem_of_getElem? (i := 643) (by decide +kernel)⟩
theorem lw_p61 : lw_okq (⟨"CoalescedCallsModel", "takes", "(II)V"⟩, 11) := ⟨⟨by decide +kernel, by decide +kernel⟩, List.mem_of_getElem? (i := 498) (by decide +kernel), List.mem_of_getElem? (i := 646) (by decide +kernel), List.mem_of_getElem? (i := 647) (by decide +kernel)⟩
theorem lw_p62 : lw_okq (⟨"CoalescedCallsModel", "leaves", "(I)V"⟩, 11) := ⟨⟨by decide +kernel, by decide +kernel⟩, List.mem_of_getElem? (i := 498) (by decide +kernel), List.mem_of_getElem? (i := 650) (by decide +kernel), List.mem_of_getElem? (i := 651) (by decide +kernel)⟩
theorem lw_p63 : lw_okq (⟨"CoalescedCallsModel", "reason", "(I)I"⟩, 11) := ⟨⟨by decide +kernel, by decide +kernel⟩, List.mem_of_getElem? (i := 498) (by decide +kernel), List.mem_of_getElem? (i := 654) (by decide +kernel), List.mem_of_getElem? (i := 655) (by decide +kernel)⟩
def lw_privs_4 : List (MethodName × Nat) := [(⟨"CoalescedCallsModel", "get", "(II)I"⟩, 11), (⟨"CoalescedCallsModel", "doCome", "(I)I"⟩, 11), (⟨"CoalescedCallsModel", "ring", "(I)I"⟩, 11), (⟨"CoalescedCallsModel", "isInRing", "(II)Z"⟩, 11), (⟨"CoalescedCallsModel", "frameAt", "(II)I"⟩, 11), (⟨"CoalescedCallsModel", "more", "(III)V"⟩, 11), (⟨"CoalescedCallsModel", "placeInRow", "(I)I"⟩, 11), (⟨"CoalescedCallsModel", "oldest", "(I)I"⟩, 11), (⟨"CoalescedCallsModel", "doCall", "(I)V"⟩, 11), (⟨"CoalescedCallsModel", "ticks", "(I)I"⟩, 11), (⟨"CoalescedCallsModel", "allOf", "(I)I"⟩, 11), (⟨"CoalescedCallsModel", "tick", "()V"⟩, 11), (⟨"CoalescedCallsModel", "polls", "()V"⟩, 11), (⟨"CoalescedCallsModel", "takes", "(II)V"⟩, 11), (⟨"CoalescedCallsModel", "leaves", "(I)V"⟩, 11), (⟨"CoalescedCallsModel", "reason", "(I)I"⟩, 11)]
theorem lw_r4 : ∀ q ∈ lw_privs_4, lw_okq q := List.forall_mem_cons.mpr ⟨lw_p48, List.forall_mem_cons.mpr ⟨lw_p49, List.forall_mem_cons.mpr ⟨lw_p50, List.forall_mem_cons.mpr ⟨lw_p51, List.forall_mem_cons.mpr ⟨lw_p52, List.forall_mem_cons.mpr ⟨lw_p53, List.forall_mem_cons.mpr ⟨lw_p54, List.forall_mem_cons.mpr ⟨lw_p55, List.forall_mem_cons.mpr ⟨lw_p56, List.forall_mem_cons.mpr ⟨lw_p57, List.forall_mem_cons.mpr ⟨lw_p58, List.forall_mem_cons.mpr ⟨lw_p59, List.forall_mem_cons.mpr ⟨lw_p60, List.forall_mem_cons.mpr ⟨lw_p61, List.forall_mem_cons.mpr ⟨lw_p62, List.forall_mem_cons.mpr ⟨lw_p63, fun _ h => absurd h List.not_mem_nil⟩⟩⟩⟩⟩⟩⟩⟩⟩⟩⟩⟩⟩⟩⟩⟩
theorem lw_p64 : lw_okq (⟨"CoalescedCallsModel", "isFrame", "(I)Z"⟩, 11) := ⟨⟨by decide +kernel, by decide +kernel⟩, List.mem_of_getElem? (i := 498) (by decide +kernel), List.mem_of_getElem? (i := 666) (by decide +kernel), List.mem_of_getElem? (i := 667) (by decide +kernel)⟩
theorem lw_p65 : lw_okq (⟨"CoalescedCallsModel", "waitOf", "(I)I"⟩, 11) := ⟨⟨by decide +kernel, by decide +kernel⟩, List.mem_of_getElem? (i := 498) (by decide +kernel), List.mem_of_getElem? (i := 670) (by decide +kernel), List.mem_of_getElem? (i := 671) (by decide +kernel)⟩
theorem lw_p66 : lw_okq (⟨"CoalescedCallsModel", "inRings", "()I"⟩, 11) := ⟨⟨by decide +kernel, by decide +kernel⟩, List.mem_of_getElem? (i := 498) (by decide +kernel), List.mem_of_getElem? (i := 682) (by decide +kernel), List.mem_of_getElem? (i := 683) (by decide +kernel)⟩
theorem lw_p67 : lw_okq (⟨"CoalescedCallsModel", "keeps", "()V"⟩, 11) := ⟨⟨by decide +kernel, by decide +kernel⟩, List.mem_of_getElem? (i := 498) (by decide +kernel), List.mem_of_getElem? (i := 694) (by decide +kernel), List.mem_of_getElem? (i := 695) (by decide +kernel)⟩
theorem lw_p68 : lw_okq (⟨"CoalescedCallsModel", "comesBack", "()V"⟩, 11) := ⟨⟨by decide +kernel, by decide +kernel⟩, List.mem_of_getElem? (i := 498) (by decide +kernel), List.mem_of_getElem? (i := 698) (by decide +kernel), List.mem_of_getElem? (i := 699) (by decide +kernel)⟩
theorem lw_p69 : lw_okq (⟨"CoalescedCallsModel", "costs", "(III)I"⟩, 11) := ⟨⟨by decide +kernel, by decide +kernel⟩, List.mem_of_getElem? (i := 498) (by decide +kernel), List.mem_of_getElem? (i := 712) (by decide +kernel), List.mem_of_getElem? (i := 713) (by decide +kernel)⟩
theorem lw_p70 : lw_okq (⟨"CoalescedCallsModel", "empties", "()V"⟩, 11) := ⟨⟨by decide +kernel, by decide +kernel⟩, List.mem_of_getElem? (i := 498) (by decide +kernel), List.mem_of_getElem? (i := 716) (by decide +kernel), List.mem_of_getElem? (i := 717) (by decide +kernel)⟩
theorem lw_p71 : lw_okq (⟨"CoalescedCallsModel", "readsOrder", "()Z"⟩, 11) := ⟨⟨by decide +kernel, by decide +kernel⟩, List.mem_of_getElem? (i := 498) (by decide +kernel), List.mem_of_getElem? (i := 738) (by decide +kernel), List.mem_of_getElem? (i := 739) (by decide +kernel)⟩
theorem lw_p72 : lw_okq (⟨"CoalescedCallsModel", "takesOne", "(I)Z"⟩, 11) := ⟨⟨by decide +kernel, by decide +kernel⟩, List.mem_of_getElem? (i := 498) (by decide +kernel), List.mem_of_getElem? (i := 742) (by decide +kernel), List.mem_of_getElem? (i := 743) (by decide +kernel)⟩
theorem lw_p73 : lw_okq (⟨"CoalescedCallsModel", "isHere", "(II)Z"⟩, 11) := ⟨⟨by decide +kernel, by decide +kernel⟩, List.mem_of_getElem? (i := 498) (by decide +kernel), List.mem_of_getElem? (i := 746) (by decide +kernel), List.mem_of_getElem? (i := 747) (by decide +kernel)⟩
theorem lw_p74 : lw_okq (⟨"CoalescedCallsModel", "readsNumber", "(II)Z"⟩, 11) := ⟨⟨by decide +kernel, by decide +kernel⟩, List.mem_of_getElem? (i := 498) (by decide +kernel), List.mem_of_getElem? (i := 750) (by decide +kernel), List.mem_of_getElem? (i := 751) (by decide +kernel)⟩
theorem lw_p75 : lw_okq (⟨"CoalescedCallsModel", "carries", "()I"⟩, 11) := ⟨⟨by decide +kernel, by decide +kernel⟩, List.mem_of_getElem? (i := 498) (by decide +kernel), List.mem_of_getElem? (i := 759) (by decide +kernel), List.mem_of_getElem? (i := 760) (by decide +kernel)⟩
def lw_privs_5 : List (MethodName × Nat) := [(⟨"CoalescedCallsModel", "isFrame", "(I)Z"⟩, 11), (⟨"CoalescedCallsModel", "waitOf", "(I)I"⟩, 11), (⟨"CoalescedCallsModel", "inRings", "()I"⟩, 11), (⟨"CoalescedCallsModel", "keeps", "()V"⟩, 11), (⟨"CoalescedCallsModel", "comesBack", "()V"⟩, 11), (⟨"CoalescedCallsModel", "costs", "(III)I"⟩, 11), (⟨"CoalescedCallsModel", "empties", "()V"⟩, 11), (⟨"CoalescedCallsModel", "readsOrder", "()Z"⟩, 11), (⟨"CoalescedCallsModel", "takesOne", "(I)Z"⟩, 11), (⟨"CoalescedCallsModel", "isHere", "(II)Z"⟩, 11), (⟨"CoalescedCallsModel", "readsNumber", "(II)Z"⟩, 11), (⟨"CoalescedCallsModel", "carries", "()I"⟩, 11)]
theorem lw_r5 : ∀ q ∈ lw_privs_5, lw_okq q := List.forall_mem_cons.mpr ⟨lw_p64, List.forall_mem_cons.mpr ⟨lw_p65, List.forall_mem_cons.mpr ⟨lw_p66, List.forall_mem_cons.mpr ⟨lw_p67, List.forall_mem_cons.mpr ⟨lw_p68, List.forall_mem_cons.mpr ⟨lw_p69, List.forall_mem_cons.mpr ⟨lw_p70, List.forall_mem_cons.mpr ⟨lw_p71, List.forall_mem_cons.mpr ⟨lw_p72, List.forall_mem_cons.mpr ⟨lw_p73, List.forall_mem_cons.mpr ⟨lw_p74, List.forall_mem_cons.mpr ⟨lw_p75, fun _ h => absurd h List.not_mem_nil⟩⟩⟩⟩⟩⟩⟩⟩⟩⟩⟩⟩
def lw_privs : List (MethodName × Nat) := lw_privs_1 ++ (lw_privs_2 ++ (lw_privs_3 ++ (lw_privs_4 ++ (lw_privs_5))))
def lw_tbl : List Cond := k2_sels lw_privs ++ tables_1
theorem lw_privs_ok : ∀ q ∈ lw_privs, lw_okq q := by
  show ∀ q ∈ lw_privs_1 ++ (lw_privs_2 ++ (lw_privs_3 ++ (lw_privs_4 ++ (lw_privs_5)))), lw_okq q
  exact List.forall_mem_append.mpr ⟨lw_r1, List.forall_mem_append.mpr ⟨lw_r2, List.forall_mem_append.mpr ⟨lw_r3, List.forall_mem_append.mpr ⟨lw_r4, lw_r5⟩⟩⟩⟩
-- ===== end of PART A; then your names; then what follows =====
end
section
def RX0 : String := "CoalescedCalls$Card"
def TX0 : u_T := fun k => match k with
  | 0 => ("CoalescedCalls$Card", "settings", "[I", true)
  | 1 => ("CoalescedCalls$Card", "queues", "[LCoalescedCalls$Queue;", true)
  | 2 => ("CoalescedCalls$Card", "time", "I", false)
  | 3 => ("CoalescedCalls$Card", "came", "I", false)
  | 4 => ("CoalescedCalls$Card", "flow", "[I", true)
  | 5 => ("CoalescedCalls$Card", "cameAt", "[I", true)
  | 6 => ("CoalescedCalls$Card", "how", "[I", true)
  | _ => ("CoalescedCalls$Card", "takenAt", "[I", true)
def tyX0 : Nat → FieldType := fun k => match k with
  | 0 => .array .int
  | 1 => .array (.object "CoalescedCalls$Queue")
  | 2 => .int
  | 3 => .int
  | 4 => .array .int
  | 5 => .array .int
  | 6 => .array .int
  | _ => .array .int
abbrev wsX00 : List Cond := u_ws RX0 TX0 8
theorem nmX0 : ∀ a, a < 8 → ∀ b, b < 8 → a ≠ b → (TX0 a).2.1 ≠ (TX0 b).2.1 := by decide +kernel
theorem tyX0_ok : ∀ k, k < 8 → parseFieldDescriptor (TX0 k).2.2.1 = some (tyX0 k) := by decide +kernel
abbrev cX0_init : ByteArray := prog_2_method_1_code
def yX0_init : MethodName := ⟨RX0, "<init>", "()V"⟩
abbrev cX0_copyFrom : ByteArray := prog_2_method_2_code
def yX0_copyFrom : MethodName := ⟨RX0, "copyFrom", "(LCoalescedCalls$Card;)V"⟩
abbrev cX0_emptyLike : ByteArray := prog_2_method_3_code
def yX0_emptyLike : MethodName := ⟨RX0, "emptyLike", "(LCoalescedCalls$Card;)V"⟩
abbrev cX0_changeSetting : ByteArray := prog_2_method_4_code
def yX0_changeSetting : MethodName := ⟨RX0, "changeSetting", "(II)I"⟩
abbrev cX0_changeBounds : ByteArray := prog_2_method_5_code
def yX0_changeBounds : MethodName := ⟨RX0, "changeBounds", "(III)I"⟩
abbrev cX0_receive : ByteArray := prog_2_method_6_code
def yX0_receive : MethodName := ⟨RX0, "receive", "(I)I"⟩
abbrev cX0_changeMask : ByteArray := prog_2_method_7_code
def yX0_changeMask : MethodName := ⟨RX0, "changeMask", "(I)I"⟩
abbrev cX0_callByHand : ByteArray := prog_2_method_8_code
def yX0_callByHand : MethodName := ⟨RX0, "callByHand", "(I)I"⟩
abbrev cX0_passTicks : ByteArray := prog_2_method_9_code
def yX0_passTicks : MethodName := ⟨RX0, "passTicks", "(I)I"⟩
abbrev cX0_runTicks : ByteArray := prog_2_method_10_code
def yX0_runTicks : MethodName := ⟨RX0, "runTicks", "(I)I"⟩
abbrev cX0_tick : ByteArray := prog_2_method_11_code
def yX0_tick : MethodName := ⟨RX0, "tick", "()I"⟩
abbrev cX0_poll : ByteArray := prog_2_method_12_code
def yX0_poll : MethodName := ⟨RX0, "poll", "()I"⟩
abbrev cX0_takeOldest : ByteArray := prog_2_method_13_code
def yX0_takeOldest : MethodName := ⟨RX0, "takeOldest", "(LCoalescedCalls$Queue;I)V"⟩
abbrev cX0_whySilent : ByteArray := prog_2_method_14_code
def yX0_whySilent : MethodName := ⟨RX0, "whySilent", "(LCoalescedCalls$Queue;)I"⟩
abbrev cX0_enterRow : ByteArray := prog_2_method_15_code
def yX0_enterRow : MethodName := ⟨RX0, "enterRow", "(LCoalescedCalls$Queue;)V"⟩
abbrev cX0_leaveRow : ByteArray := prog_2_method_16_code
def yX0_leaveRow : MethodName := ⟨RX0, "leaveRow", "(LCoalescedCalls$Queue;)V"⟩
abbrev cX0_rowLength : ByteArray := prog_2_method_17_code
def yX0_rowLength : MethodName := ⟨RX0, "rowLength", "()I"⟩
abbrev cX0_queueAt : ByteArray := prog_2_method_18_code
def yX0_queueAt : MethodName := ⟨RX0, "queueAt", "(I)I"⟩
abbrev cX0_hasFrame : ByteArray := prog_2_method_19_code
def yX0_hasFrame : MethodName := ⟨RX0, "hasFrame", "(I)Z"⟩
abbrev cX0_frameFact : ByteArray := prog_2_method_20_code
def yX0_frameFact : MethodName := ⟨RX0, "frameFact", "(II)I"⟩
abbrev cX0_waitOf : ByteArray := prog_2_method_21_code
def yX0_waitOf : MethodName := ⟨RX0, "waitOf", "(I)I"⟩
abbrev cX0_total : ByteArray := prog_2_method_22_code
def yX0_total : MethodName := ⟨RX0, "total", "(I)I"⟩
abbrev cX0_maskedSet : ByteArray := prog_2_method_23_code
def yX0_maskedSet : MethodName := ⟨RX0, "maskedSet", "()I"⟩
def RX1 : String := "CoalescedCalls$History"
def TX1 : u_T := fun k => match k with
  | 0 => ("CoalescedCalls$History", "states", "[LCoalescedCalls$Card;", true)
  | 1 => ("CoalescedCalls$History", "next", "I", false)
  | _ => ("CoalescedCalls$History", "size", "I", false)
def tyX1 : Nat → FieldType := fun k => match k with
  | 0 => .array (.object "CoalescedCalls$Card")
  | 1 => .int
  | _ => .int
abbrev wsX10 : List Cond := u_ws RX1 TX1 3
theorem nmX1 : ∀ a, a < 3 → ∀ b, b < 3 → a ≠ b → (TX1 a).2.1 ≠ (TX1 b).2.1 := by decide +kernel
theorem tyX1_ok : ∀ k, k < 3 → parseFieldDescriptor (TX1 k).2.2.1 = some (tyX1 k) := by decide +kernel
abbrev cX1_init : ByteArray := prog_3_method_1_code
def yX1_init : MethodName := ⟨RX1, "<init>", "()V"⟩
abbrev cX1_prepare : ByteArray := prog_3_method_2_code
def yX1_prepare : MethodName := ⟨RX1, "prepare", "(LCoalescedCalls$Card;)V"⟩
abbrev cX1_keepIfDone : ByteArray := prog_3_method_3_code
def yX1_keepIfDone : MethodName := ⟨RX1, "keepIfDone", "(I)I"⟩
abbrev cX1_goBack : ByteArray := prog_3_method_4_code
def yX1_goBack : MethodName := ⟨RX1, "goBack", "(LCoalescedCalls$Card;)I"⟩
def RX2 : String := "CoalescedCalls$Pad"
def TX2 : u_T := fun k => match k with
  | 0 => ("CoalescedCalls$Pad", "signs", "[C", true)
  | 1 => ("CoalescedCalls$Pad", "length", "I", false)
  | 2 => ("CoalescedCalls$Pad", "at", "I", false)
  | 3 => ("CoalescedCalls$Pad", "broken", "Z", false)
  | 4 => ("CoalescedCalls$Pad", "kind", "C", false)
  | 5 => ("CoalescedCalls$Pad", "first", "I", false)
  | 6 => ("CoalescedCalls$Pad", "second", "I", false)
  | 7 => ("CoalescedCalls$Pad", "third", "I", false)
  | _ => ("CoalescedCalls$Pad", "times", "I", false)
def tyX2 : Nat → FieldType := fun k => match k with
  | 0 => .array .char
  | 1 => .int
  | 2 => .int
  | 3 => .boolean
  | 4 => .char
  | 5 => .int
  | 6 => .int
  | 7 => .int
  | _ => .int
abbrev wsX20 : List Cond := u_ws RX2 TX2 9
theorem nmX2 : ∀ a, a < 9 → ∀ b, b < 9 → a ≠ b → (TX2 a).2.1 ≠ (TX2 b).2.1 := by decide +kernel
theorem tyX2_ok : ∀ k, k < 9 → parseFieldDescriptor (TX2 k).2.2.1 = some (tyX2 k) := by decide +kernel
abbrev cX2_init : ByteArray := prog_4_method_1_code
def yX2_init : MethodName := ⟨RX2, "<init>", "()V"⟩
abbrev cX2_append : ByteArray := prog_4_method_2_code
def yX2_append : MethodName := ⟨RX2, "append", "(J)I"⟩
abbrev cX2_sizeOf : ByteArray := prog_4_method_3_code
def yX2_sizeOf : MethodName := ⟨RX2, "sizeOf", "(J)I"⟩
abbrev cX2_clear : ByteArray := prog_4_method_4_code
def yX2_clear : MethodName := ⟨RX2, "clear", "()I"⟩
abbrev cX2_firstFault : ByteArray := prog_4_method_5_code
def yX2_firstFault : MethodName := ⟨RX2, "firstFault", "()I"⟩
abbrev cX2_startReading : ByteArray := prog_4_method_6_code
def yX2_startReading : MethodName := ⟨RX2, "startReading", "()V"⟩
abbrev cX2_readOrder : ByteArray := prog_4_method_7_code
def yX2_readOrder : MethodName := ⟨RX2, "readOrder", "()Z"⟩
abbrev cX2_readFrames : ByteArray := prog_4_method_8_code
def yX2_readFrames : MethodName := ⟨RX2, "readFrames", "()V"⟩
abbrev cX2_readBounds : ByteArray := prog_4_method_9_code
def yX2_readBounds : MethodName := ⟨RX2, "readBounds", "()V"⟩
abbrev cX2_readNumber : ByteArray := prog_4_method_10_code
def yX2_readNumber : MethodName := ⟨RX2, "readNumber", "()I"⟩
abbrev cX2_readDigit : ByteArray := prog_4_method_11_code
def yX2_readDigit : MethodName := ⟨RX2, "readDigit", "()I"⟩
abbrev cX2_demand : ByteArray := prog_4_method_12_code
def yX2_demand : MethodName := ⟨RX2, "demand", "(C)V"⟩
abbrev cX2_readSign : ByteArray := prog_4_method_13_code
def yX2_readSign : MethodName := ⟨RX2, "readSign", "(C)Z"⟩
abbrev cX2_digitStands : ByteArray := prog_4_method_14_code
def yX2_digitStands : MethodName := ⟨RX2, "digitStands", "()Z"⟩
def RX3 : String := "CoalescedCalls$Queue"
def TX3 : u_T := fun k => match k with
  | 0 => ("CoalescedCalls$Queue", "count", "I", false)
  | 1 => ("CoalescedCalls$Queue", "wait", "I", false)
  | 2 => ("CoalescedCalls$Queue", "inUse", "I", false)
  | 3 => ("CoalescedCalls$Queue", "place", "I", false)
  | 4 => ("CoalescedCalls$Queue", "masked", "Z", false)
  | 5 => ("CoalescedCalls$Queue", "inRing", "I", false)
  | 6 => ("CoalescedCalls$Queue", "oldest", "I", false)
  | 7 => ("CoalescedCalls$Queue", "calls", "I", false)
  | 8 => ("CoalescedCalls$Queue", "taken", "I", false)
  | 9 => ("CoalescedCalls$Queue", "dropped", "I", false)
  | 10 => ("CoalescedCalls$Queue", "waited", "I", false)
  | 11 => ("CoalescedCalls$Queue", "longest", "I", false)
  | _ => ("CoalescedCalls$Queue", "sinceCall", "I", false)
def tyX3 : Nat → FieldType := fun k => match k with
  | 0 => .int
  | 1 => .int
  | 2 => .int
  | 3 => .int
  | 4 => .boolean
  | 5 => .int
  | 6 => .int
  | 7 => .int
  | 8 => .int
  | 9 => .int
  | 10 => .int
  | 11 => .int
  | _ => .int
abbrev wsX30 : List Cond := u_ws RX3 TX3 13
theorem nmX3 : ∀ a, a < 13 → ∀ b, b < 13 → a ≠ b → (TX3 a).2.1 ≠ (TX3 b).2.1 := by decide +kernel
theorem tyX3_ok : ∀ k, k < 13 → parseFieldDescriptor (TX3 k).2.2.1 = some (tyX3 k) := by decide +kernel
abbrev cX3_init : ByteArray := prog_5_method_1_code
def yX3_init : MethodName := ⟨RX3, "<init>", "()V"⟩
abbrev cX3_copyFrom : ByteArray := prog_5_method_2_code
def yX3_copyFrom : MethodName := ⟨RX3, "copyFrom", "(LCoalescedCalls$Queue;)V"⟩
abbrev cX3_emptyLike : ByteArray := prog_5_method_3_code
def yX3_emptyLike : MethodName := ⟨RX3, "emptyLike", "(LCoalescedCalls$Queue;)V"⟩
abbrev cX3_isCalled : ByteArray := prog_5_method_4_code
def yX3_isCalled : MethodName := ⟨RX3, "isCalled", "()Z"⟩
abbrev cX3_noteTaken : ByteArray := prog_5_method_5_code
def yX3_noteTaken : MethodName := ⟨RX3, "noteTaken", "(I)V"⟩
abbrev cX3_becomeIdle : ByteArray := prog_5_method_6_code
def yX3_becomeIdle : MethodName := ⟨RX3, "becomeIdle", "(Z)V"⟩
abbrev cX3_fact : ByteArray := prog_5_method_7_code
def yX3_fact : MethodName := ⟨RX3, "fact", "(I)I"⟩
def RX4 : String := "CoalescedCalls"
def TX4 : u_T := fun k => match k with
  | 0 => ("CoalescedCalls", "card", "LCoalescedCalls$Card;", true)
  | 1 => ("CoalescedCalls", "probe", "LCoalescedCalls$Card;", true)
  | 2 => ("CoalescedCalls", "slots", "[LCoalescedCalls$Card;", true)
  | 3 => ("CoalescedCalls", "saved", "[Z", true)
  | 4 => ("CoalescedCalls", "history", "LCoalescedCalls$History;", true)
  | _ => ("CoalescedCalls", "pad", "LCoalescedCalls$Pad;", true)
def tyX4 : Nat → FieldType := fun k => match k with
  | 0 => .object "CoalescedCalls$Card"
  | 1 => .object "CoalescedCalls$Card"
  | 2 => .array (.object "CoalescedCalls$Card")
  | 3 => .array .boolean
  | 4 => .object "CoalescedCalls$History"
  | _ => .object "CoalescedCalls$Pad"
abbrev wsX40 : List Cond := u_ws RX4 TX4 6
theorem nmX4 : ∀ a, a < 6 → ∀ b, b < 6 → a ≠ b → (TX4 a).2.1 ≠ (TX4 b).2.1 := by decide +kernel
theorem tyX4_ok : ∀ k, k < 6 → parseFieldDescriptor (TX4 k).2.2.1 = some (tyX4 k) := by decide +kernel
abbrev cX4_init : ByteArray := prog_1_method_1_code
def yX4_init : MethodName := ⟨RX4, "<init>", "()V"⟩
abbrev cX4_set : ByteArray := prog_1_method_2_code
def yX4_set : MethodName := ⟨RX4, "set", "(II)I"⟩
abbrev cX4_bounds : ByteArray := prog_1_method_3_code
def yX4_bounds : MethodName := ⟨RX4, "bounds", "(III)I"⟩
abbrev cX4_come : ByteArray := prog_1_method_4_code
def yX4_come : MethodName := ⟨RX4, "come", "(I)I"⟩
abbrev cX4_mask : ByteArray := prog_1_method_5_code
def yX4_mask : MethodName := ⟨RX4, "mask", "(I)I"⟩
abbrev cX4_call : ByteArray := prog_1_method_6_code
def yX4_call : MethodName := ⟨RX4, "call", "(I)I"⟩
abbrev cX4_pass : ByteArray := prog_1_method_7_code
def yX4_pass : MethodName := ⟨RX4, "pass", "(I)I"⟩
abbrev cX4_of : ByteArray := prog_1_method_8_code
def yX4_of : MethodName := ⟨RX4, "of", "(II)I"⟩
abbrev cX4_frame : ByteArray := prog_1_method_9_code
def yX4_frame : MethodName := ⟨RX4, "frame", "(II)I"⟩
abbrev cX4_row : ByteArray := prog_1_method_10_code
def yX4_row : MethodName := ⟨RX4, "row", "(I)I"⟩
abbrev cX4_count : ByteArray := prog_1_method_11_code
def yX4_count : MethodName := ⟨RX4, "count", "(I)I"⟩
abbrev cX4_why : ByteArray := prog_1_method_12_code
def yX4_why : MethodName := ⟨RX4, "why", "(I)I"⟩
abbrev cX4_takenIn : ByteArray := prog_1_method_13_code
def yX4_takenIn : MethodName := ⟨RX4, "takenIn", "(I)I"⟩
abbrev cX4_would : ByteArray := prog_1_method_14_code
def yX4_would : MethodName := ⟨RX4, "would", "(II)I"⟩
abbrev cX4_bestCount : ByteArray := prog_1_method_15_code
def yX4_bestCount : MethodName := ⟨RX4, "bestCount", "(III)I"⟩
abbrev cX4_put : ByteArray := prog_1_method_16_code
def yX4_put : MethodName := ⟨RX4, "put", "(J)I"⟩
abbrev cX4_wipe : ByteArray := prog_1_method_17_code
def yX4_wipe : MethodName := ⟨RX4, "wipe", "()I"⟩
abbrev cX4_fault : ByteArray := prog_1_method_18_code
def yX4_fault : MethodName := ⟨RX4, "fault", "()I"⟩
abbrev cX4_carryOut : ByteArray := prog_1_method_19_code
def yX4_carryOut : MethodName := ⟨RX4, "carryOut", "()I"⟩
abbrev cX4_undo : ByteArray := prog_1_method_20_code
def yX4_undo : MethodName := ⟨RX4, "undo", "()I"⟩
abbrev cX4_save : ByteArray := prog_1_method_21_code
def yX4_save : MethodName := ⟨RX4, "save", "(I)I"⟩
abbrev cX4_restore : ByteArray := prog_1_method_22_code
def yX4_restore : MethodName := ⟨RX4, "restore", "(I)I"⟩
abbrev cX4_isQueue : ByteArray := prog_1_method_23_code
def yX4_isQueue : MethodName := ⟨RX4, "isQueue", "(I)Z"⟩
abbrev cX4_isSlot : ByteArray := prog_1_method_24_code
def yX4_isSlot : MethodName := ⟨RX4, "isSlot", "(I)Z"⟩
abbrev cX4_trialCost : ByteArray := prog_1_method_25_code
def yX4_trialCost : MethodName := ⟨RX4, "trialCost", "(III)I"⟩
abbrev cX4_carryOrder : ByteArray := prog_1_method_26_code
def yX4_carryOrder : MethodName := ⟨RX4, "carryOrder", "()I"⟩
def RX5 : String := "CoalescedCallsModel"
def TX5 : u_T := fun k => match k with
  | 0 => ("CoalescedCallsModel", "all", "[I", true)
  | 1 => ("CoalescedCallsModel", "kept", "[I", true)
  | 2 => ("CoalescedCallsModel", "history", "[I", true)
  | 3 => ("CoalescedCallsModel", "historyLong", "I", false)
  | 4 => ("CoalescedCallsModel", "slots", "[I", true)
  | 5 => ("CoalescedCallsModel", "isSaved", "[I", true)
  | 6 => ("CoalescedCallsModel", "text", "[I", true)
  | 7 => ("CoalescedCallsModel", "textLong", "I", false)
  | 8 => ("CoalescedCallsModel", "spot", "I", false)
  | 9 => ("CoalescedCallsModel", "letter", "I", false)
  | _ => ("CoalescedCallsModel", "told", "[I", true)
def tyX5 : Nat → FieldType := fun k => match k with
  | 0 => .array .int
  | 1 => .array .int
  | 2 => .array .int
  | 3 => .int
  | 4 => .array .int
  | 5 => .array .int
  | 6 => .array .int
  | 7 => .int
  | 8 => .int
  | 9 => .int
  | _ => .array .int
abbrev wsX50 : List Cond := u_ws RX5 TX5 11
theorem nmX5 : ∀ a, a < 11 → ∀ b, b < 11 → a ≠ b → (TX5 a).2.1 ≠ (TX5 b).2.1 := by decide +kernel
theorem tyX5_ok : ∀ k, k < 11 → parseFieldDescriptor (TX5 k).2.2.1 = some (tyX5 k) := by decide +kernel
abbrev cX5_init : ByteArray := prog_7_method_1_code
def yX5_init : MethodName := ⟨RX5, "<init>", "()V"⟩
abbrev cX5_in : ByteArray := prog_7_method_3_code
def yX5_in : MethodName := ⟨RX5, "in", "(JJJ)Z"⟩
abbrev cX5_changes : ByteArray := prog_7_method_4_code
def yX5_changes : MethodName := ⟨RX5, "changes", "()V"⟩
abbrev cX5_keeps : ByteArray := prog_7_method_5_code
def yX5_keeps : MethodName := ⟨RX5, "keeps", "()V"⟩
abbrev cX5_comesBack : ByteArray := prog_7_method_6_code
def yX5_comesBack : MethodName := ⟨RX5, "comesBack", "()V"⟩
abbrev cX5_isQueue : ByteArray := prog_7_method_7_code
def yX5_isQueue : MethodName := ⟨RX5, "isQueue", "(I)Z"⟩
abbrev cX5_get : ByteArray := prog_7_method_8_code
def yX5_get : MethodName := ⟨RX5, "get", "(II)I"⟩
abbrev cX5_lays : ByteArray := prog_7_method_9_code
def yX5_lays : MethodName := ⟨RX5, "lays", "(III)V"⟩
abbrev cX5_more : ByteArray := prog_7_method_10_code
def yX5_more : MethodName := ⟨RX5, "more", "(III)V"⟩
abbrev cX5_frameAt : ByteArray := prog_7_method_11_code
def yX5_frameAt : MethodName := ⟨RX5, "frameAt", "(II)I"⟩
abbrev cX5_isInRing : ByteArray := prog_7_method_12_code
def yX5_isInRing : MethodName := ⟨RX5, "isInRing", "(II)Z"⟩
abbrev cX5_ring : ByteArray := prog_7_method_13_code
def yX5_ring : MethodName := ⟨RX5, "ring", "(I)I"⟩
abbrev cX5_oldest : ByteArray := prog_7_method_14_code
def yX5_oldest : MethodName := ⟨RX5, "oldest", "(I)I"⟩
abbrev cX5_placeInRow : ByteArray := prog_7_method_15_code
def yX5_placeInRow : MethodName := ⟨RX5, "placeInRow", "(I)I"⟩
abbrev cX5_allOf : ByteArray := prog_7_method_16_code
def yX5_allOf : MethodName := ⟨RX5, "allOf", "(I)I"⟩
abbrev cX5_inRings : ByteArray := prog_7_method_17_code
def yX5_inRings : MethodName := ⟨RX5, "inRings", "()I"⟩
abbrev cX5_doCome : ByteArray := prog_7_method_18_code
def yX5_doCome : MethodName := ⟨RX5, "doCome", "(I)I"⟩
abbrev cX5_doCall : ByteArray := prog_7_method_19_code
def yX5_doCall : MethodName := ⟨RX5, "doCall", "(I)V"⟩
abbrev cX5_takes : ByteArray := prog_7_method_20_code
def yX5_takes : MethodName := ⟨RX5, "takes", "(II)V"⟩
abbrev cX5_leaves : ByteArray := prog_7_method_21_code
def yX5_leaves : MethodName := ⟨RX5, "leaves", "(I)V"⟩
abbrev cX5_polls : ByteArray := prog_7_method_22_code
def yX5_polls : MethodName := ⟨RX5, "polls", "()V"⟩
abbrev cX5_reason : ByteArray := prog_7_method_23_code
def yX5_reason : MethodName := ⟨RX5, "reason", "(I)I"⟩
abbrev cX5_tick : ByteArray := prog_7_method_24_code
def yX5_tick : MethodName := ⟨RX5, "tick", "()V"⟩
abbrev cX5_ticks : ByteArray := prog_7_method_25_code
def yX5_ticks : MethodName := ⟨RX5, "ticks", "(I)I"⟩
abbrev cX5_areBounds : ByteArray := prog_7_method_26_code
def yX5_areBounds : MethodName := ⟨RX5, "areBounds", "(II)Z"⟩
abbrev cX5_doBounds : ByteArray := prog_7_method_27_code
def yX5_doBounds : MethodName := ⟨RX5, "doBounds", "(III)I"⟩
abbrev cX5_isSetting : ByteArray := prog_7_method_28_code
def yX5_isSetting : MethodName := ⟨RX5, "isSetting", "(II)Z"⟩
abbrev cX5_set : ByteArray := prog_7_method_29_code
def yX5_set : MethodName := ⟨RX5, "set", "(II)I"⟩
abbrev cX5_bounds : ByteArray := prog_7_method_30_code
def yX5_bounds : MethodName := ⟨RX5, "bounds", "(III)I"⟩
abbrev cX5_come : ByteArray := prog_7_method_31_code
def yX5_come : MethodName := ⟨RX5, "come", "(I)I"⟩
abbrev cX5_mask : ByteArray := prog_7_method_32_code
def yX5_mask : MethodName := ⟨RX5, "mask", "(I)I"⟩
abbrev cX5_call : ByteArray := prog_7_method_33_code
def yX5_call : MethodName := ⟨RX5, "call", "(I)I"⟩
abbrev cX5_areTicks : ByteArray := prog_7_method_34_code
def yX5_areTicks : MethodName := ⟨RX5, "areTicks", "(I)Z"⟩
abbrev cX5_pass : ByteArray := prog_7_method_35_code
def yX5_pass : MethodName := ⟨RX5, "pass", "(I)I"⟩
abbrev cX5_of : ByteArray := prog_7_method_36_code
def yX5_of : MethodName := ⟨RX5, "of", "(II)I"⟩
abbrev cX5_isFrame : ByteArray := prog_7_method_37_code
def yX5_isFrame : MethodName := ⟨RX5, "isFrame", "(I)Z"⟩
abbrev cX5_waitOf : ByteArray := prog_7_method_38_code
def yX5_waitOf : MethodName := ⟨RX5, "waitOf", "(I)I"⟩
abbrev cX5_frame : ByteArray := prog_7_method_39_code
def yX5_frame : MethodName := ⟨RX5, "frame", "(II)I"⟩
abbrev cX5_row : ByteArray := prog_7_method_40_code
def yX5_row : MethodName := ⟨RX5, "row", "(I)I"⟩
abbrev cX5_count : ByteArray := prog_7_method_41_code
def yX5_count : MethodName := ⟨RX5, "count", "(I)I"⟩
abbrev cX5_why : ByteArray := prog_7_method_42_code
def yX5_why : MethodName := ⟨RX5, "why", "(I)I"⟩
abbrev cX5_takenIn : ByteArray := prog_7_method_43_code
def yX5_takenIn : MethodName := ⟨RX5, "takenIn", "(I)I"⟩
abbrev cX5_would : ByteArray := prog_7_method_44_code
def yX5_would : MethodName := ⟨RX5, "would", "(II)I"⟩
abbrev cX5_empties : ByteArray := prog_7_method_45_code
def yX5_empties : MethodName := ⟨RX5, "empties", "()V"⟩
abbrev cX5_costs : ByteArray := prog_7_method_46_code
def yX5_costs : MethodName := ⟨RX5, "costs", "(III)I"⟩
abbrev cX5_bestCount : ByteArray := prog_7_method_47_code
def yX5_bestCount : MethodName := ⟨RX5, "bestCount", "(III)I"⟩
abbrev cX5_charactersOf : ByteArray := prog_7_method_48_code
def yX5_charactersOf : MethodName := ⟨RX5, "charactersOf", "(J)I"⟩
abbrev cX5_put : ByteArray := prog_7_method_49_code
def yX5_put : MethodName := ⟨RX5, "put", "(J)I"⟩
abbrev cX5_wipe : ByteArray := prog_7_method_50_code
def yX5_wipe : MethodName := ⟨RX5, "wipe", "()I"⟩
abbrev cX5_isHere : ByteArray := prog_7_method_51_code
def yX5_isHere : MethodName := ⟨RX5, "isHere", "(II)Z"⟩
abbrev cX5_takesOne : ByteArray := prog_7_method_52_code
def yX5_takesOne : MethodName := ⟨RX5, "takesOne", "(I)Z"⟩
abbrev cX5_readsNumber : ByteArray := prog_7_method_53_code
def yX5_readsNumber : MethodName := ⟨RX5, "readsNumber", "(II)Z"⟩
abbrev cX5_readsOrder : ByteArray := prog_7_method_54_code
def yX5_readsOrder : MethodName := ⟨RX5, "readsOrder", "()Z"⟩
abbrev cX5_fault : ByteArray := prog_7_method_55_code
def yX5_fault : MethodName := ⟨RX5, "fault", "()I"⟩
abbrev cX5_carries : ByteArray := prog_7_method_56_code
def yX5_carries : MethodName := ⟨RX5, "carries", "()I"⟩
abbrev cX5_carryOut : ByteArray := prog_7_method_57_code
def yX5_carryOut : MethodName := ⟨RX5, "carryOut", "()I"⟩
abbrev cX5_undo : ByteArray := prog_7_method_58_code
def yX5_undo : MethodName := ⟨RX5, "undo", "()I"⟩
abbrev cX5_isSlot : ByteArray := prog_7_method_59_code
def yX5_isSlot : MethodName := ⟨RX5, "isSlot", "(I)Z"⟩
abbrev cX5_save : ByteArray := prog_7_method_60_code
def yX5_save : MethodName := ⟨RX5, "save", "(I)I"⟩
abbrev cX5_restore : ByteArray := prog_7_method_61_code
def yX5_restore : MethodName := ⟨RX5, "restore", "(I)I"⟩
def RJ9 : String := "java/lang/Math"
def TJ9 : u_T := fun k => match k with
  | _ => ("", "", "", false)
def tyJ9 : Nat → FieldType := fun k => match k with
  | _ => .int
def RJ10 : String := "java/lang/System"
def TJ10 : u_T := fun k => match k with
  | _ => ("", "", "", false)
def tyJ10 : Nat → FieldType := fun k => match k with
  | _ => .int
def RL : String := "CoalescedCallsLaw"
abbrev cL_law : ByteArray := code
def yL_law : MethodName := ⟨RL, "law", "([I)Z"⟩
abbrev vwCl : List vw_C := [(RX0, TX0, 8), (RX1, TX1, 3), (RX2, TX2, 9), (RX3, TX3, 13), (RX4, TX4, 6), (RX5, TX5, 11)]
end
section
theorem dX0_init_0 : decode cX0_init 0 = .ok (.aload_n 0, 1) := by decide +kernel
theorem dX0_init_1 : decode cX0_init 1 = .ok (.invokespecial 3, 3) := by decide +kernel
theorem dX0_init_4 : decode cX0_init 4 = .ok (.aload_n 0, 1) := by decide +kernel
theorem dX0_init_5 : decode cX0_init 5 = .ok (.getstatic 9, 3) := by decide +kernel
theorem dX0_init_8 : decode cX0_init 8 = .ok (.arraylength, 1) := by decide +kernel
theorem dX0_init_9 : decode cX0_init 9 = .ok (.newarray .int, 2) := by decide +kernel
theorem dX0_init_11 : decode cX0_init 11 = .ok (.putfield 13, 3) := by decide +kernel
theorem dX0_init_14 : decode cX0_init 14 = .ok (.aload_n 0, 1) := by decide +kernel
theorem dX0_init_15 : decode cX0_init 15 = .ok (.iconst 3, 1) := by decide +kernel
theorem dX0_init_16 : decode cX0_init 16 = .ok (.anewarray 18, 3) := by decide +kernel
theorem dX0_init_19 : decode cX0_init 19 = .ok (.putfield 20, 3) := by decide +kernel
theorem dX0_init_22 : decode cX0_init 22 = .ok (.aload_n 0, 1) := by decide +kernel
theorem dX0_init_23 : decode cX0_init 23 = .ok (.iconst 0, 1) := by decide +kernel
theorem dX0_init_24 : decode cX0_init 24 = .ok (.putfield 24, 3) := by decide +kernel
theorem dX0_init_27 : decode cX0_init 27 = .ok (.aload_n 0, 1) := by decide +kernel
theorem dX0_init_28 : decode cX0_init 28 = .ok (.iconst 0, 1) := by decide +kernel
theorem dX0_init_29 : decode cX0_init 29 = .ok (.putfield 28, 3) := by decide +kernel
theorem dX0_init_32 : decode cX0_init 32 = .ok (.aload_n 0, 1) := by decide +kernel
theorem dX0_init_33 : decode cX0_init 33 = .ok (.sipush 400, 3) := by decide +kernel
theorem dX0_init_36 : decode cX0_init 36 = .ok (.newarray .int, 2) := by decide +kernel
theorem dX0_init_38 : decode cX0_init 38 = .ok (.putfield 31, 3) := by decide +kernel
theorem dX0_init_41 : decode cX0_init 41 = .ok (.aload_n 0, 1) := by decide +kernel
theorem dX0_init_42 : decode cX0_init 42 = .ok (.sipush 400, 3) := by decide +kernel
theorem dX0_init_45 : decode cX0_init 45 = .ok (.newarray .int, 2) := by decide +kernel
theorem dX0_init_47 : decode cX0_init 47 = .ok (.putfield 34, 3) := by decide +kernel
theorem dX0_init_50 : decode cX0_init 50 = .ok (.aload_n 0, 1) := by decide +kernel
theorem dX0_init_51 : decode cX0_init 51 = .ok (.sipush 400, 3) := by decide +kernel
theorem dX0_init_54 : decode cX0_init 54 = .ok (.newarray .int, 2) := by decide +kernel
theorem dX0_init_56 : decode cX0_init 56 = .ok (.putfield 37, 3) := by decide +kernel
theorem dX0_init_59 : decode cX0_init 59 = .ok (.aload_n 0, 1) := by decide +kernel
theorem dX0_init_60 : decode cX0_init 60 = .ok (.sipush 400, 3) := by decide +kernel
theorem dX0_init_63 : decode cX0_init 63 = .ok (.newarray .int, 2) := by decide +kernel
theorem dX0_init_65 : decode cX0_init 65 = .ok (.putfield 40, 3) := by decide +kernel
theorem dX0_init_68 : decode cX0_init 68 = .ok (.getstatic 9, 3) := by decide +kernel
theorem dX0_init_71 : decode cX0_init 71 = .ok (.iconst 0, 1) := by decide +kernel
theorem dX0_init_72 : decode cX0_init 72 = .ok (.aload_n 0, 1) := by decide +kernel
theorem dX0_init_73 : decode cX0_init 73 = .ok (.getfield 13, 3) := by decide +kernel
theorem dX0_init_76 : decode cX0_init 76 = .ok (.iconst 0, 1) := by decide +kernel
theorem dX0_init_77 : decode cX0_init 77 = .ok (.getstatic 9, 3) := by decide +kernel
theorem dX0_init_80 : decode cX0_init 80 = .ok (.arraylength, 1) := by decide +kernel
theorem dX0_init_81 : decode cX0_init 81 = .ok (.invokestatic 43, 3) := by decide +kernel
theorem dX0_init_84 : decode cX0_init 84 = .ok (.iconst 0, 1) := by decide +kernel
theorem dX0_init_85 : decode cX0_init 85 = .ok (.istore_n 1, 1) := by decide +kernel
theorem dX0_init_86 : decode cX0_init 86 = .ok (.iload_n 1, 1) := by decide +kernel
theorem dX0_init_87 : decode cX0_init 87 = .ok (.iconst 3, 1) := by decide +kernel
theorem dX0_init_88 : decode cX0_init 88 = .ok (.if_icmp .ge 22, 3) := by decide +kernel
theorem dX0_init_91 : decode cX0_init 91 = .ok (.aload_n 0, 1) := by decide +kernel
theorem dX0_init_92 : decode cX0_init 92 = .ok (.getfield 20, 3) := by decide +kernel
theorem dX0_init_95 : decode cX0_init 95 = .ok (.iload_n 1, 1) := by decide +kernel
theorem dX0_init_96 : decode cX0_init 96 = .ok (.new 18, 3) := by decide +kernel
theorem dX0_init_99 : decode cX0_init 99 = .ok (.dup, 1) := by decide +kernel
theorem dX0_init_100 : decode cX0_init 100 = .ok (.invokespecial 49, 3) := by decide +kernel
theorem dX0_init_103 : decode cX0_init 103 = .ok (.aastore, 1) := by decide +kernel
theorem dX0_init_104 : decode cX0_init 104 = .ok (.iinc 1 1, 3) := by decide +kernel
theorem dX0_init_107 : decode cX0_init 107 = .ok (.goto (-21), 3) := by decide +kernel
theorem dX0_init_110 : decode cX0_init 110 = .ok (.return_, 1) := by decide +kernel
theorem dX0_copyFrom_0 : decode cX0_copyFrom 0 = .ok (.aload_n 1, 1) := by decide +kernel
theorem dX0_copyFrom_1 : decode cX0_copyFrom 1 = .ok (.getfield 13, 3) := by decide +kernel
theorem dX0_copyFrom_4 : decode cX0_copyFrom 4 = .ok (.iconst 0, 1) := by decide +kernel
theorem dX0_copyFrom_5 : decode cX0_copyFrom 5 = .ok (.aload_n 0, 1) := by decide +kernel
theorem dX0_copyFrom_6 : decode cX0_copyFrom 6 = .ok (.getfield 13, 3) := by decide +kernel
theorem dX0_copyFrom_9 : decode cX0_copyFrom 9 = .ok (.iconst 0, 1) := by decide +kernel
theorem dX0_copyFrom_10 : decode cX0_copyFrom 10 = .ok (.aload_n 0, 1) := by decide +kernel
theorem dX0_copyFrom_11 : decode cX0_copyFrom 11 = .ok (.getfield 13, 3) := by decide +kernel
theorem dX0_copyFrom_14 : decode cX0_copyFrom 14 = .ok (.arraylength, 1) := by decide +kernel
theorem dX0_copyFrom_15 : decode cX0_copyFrom 15 = .ok (.invokestatic 43, 3) := by decide +kernel
theorem dX0_copyFrom_18 : decode cX0_copyFrom 18 = .ok (.iconst 0, 1) := by decide +kernel
theorem dX0_copyFrom_19 : decode cX0_copyFrom 19 = .ok (.istore_n 2, 1) := by decide +kernel
theorem dX0_copyFrom_20 : decode cX0_copyFrom 20 = .ok (.iload_n 2, 1) := by decide +kernel
theorem dX0_copyFrom_21 : decode cX0_copyFrom 21 = .ok (.iconst 3, 1) := by decide +kernel
theorem dX0_copyFrom_22 : decode cX0_copyFrom 22 = .ok (.if_icmp .ge 24, 3) := by decide +kernel
theorem dX0_copyFrom_25 : decode cX0_copyFrom 25 = .ok (.aload_n 0, 1) := by decide +kernel
theorem dX0_copyFrom_26 : decode cX0_copyFrom 26 = .ok (.getfield 20, 3) := by decide +kernel
theorem dX0_copyFrom_29 : decode cX0_copyFrom 29 = .ok (.iload_n 2, 1) := by decide +kernel
theorem dX0_copyFrom_30 : decode cX0_copyFrom 30 = .ok (.aaload, 1) := by decide +kernel
theorem dX0_copyFrom_31 : decode cX0_copyFrom 31 = .ok (.aload_n 1, 1) := by decide +kernel
theorem dX0_copyFrom_32 : decode cX0_copyFrom 32 = .ok (.getfield 20, 3) := by decide +kernel
theorem dX0_copyFrom_35 : decode cX0_copyFrom 35 = .ok (.iload_n 2, 1) := by decide +kernel
theorem dX0_copyFrom_36 : decode cX0_copyFrom 36 = .ok (.aaload, 1) := by decide +kernel
theorem dX0_copyFrom_37 : decode cX0_copyFrom 37 = .ok (.invokevirtual 50, 3) := by decide +kernel
theorem dX0_copyFrom_40 : decode cX0_copyFrom 40 = .ok (.iinc 2 1, 3) := by decide +kernel
theorem dX0_copyFrom_43 : decode cX0_copyFrom 43 = .ok (.goto (-23), 3) := by decide +kernel
theorem dX0_copyFrom_46 : decode cX0_copyFrom 46 = .ok (.aload_n 0, 1) := by decide +kernel
theorem dX0_copyFrom_47 : decode cX0_copyFrom 47 = .ok (.aload_n 1, 1) := by decide +kernel
theorem dX0_copyFrom_48 : decode cX0_copyFrom 48 = .ok (.getfield 24, 3) := by decide +kernel
theorem dX0_copyFrom_51 : decode cX0_copyFrom 51 = .ok (.putfield 24, 3) := by decide +kernel
theorem dX0_copyFrom_54 : decode cX0_copyFrom 54 = .ok (.aload_n 0, 1) := by decide +kernel
theorem dX0_copyFrom_55 : decode cX0_copyFrom 55 = .ok (.aload_n 1, 1) := by decide +kernel
theorem dX0_copyFrom_56 : decode cX0_copyFrom 56 = .ok (.getfield 28, 3) := by decide +kernel
theorem dX0_copyFrom_59 : decode cX0_copyFrom 59 = .ok (.putfield 28, 3) := by decide +kernel
theorem dX0_copyFrom_62 : decode cX0_copyFrom 62 = .ok (.aload_n 1, 1) := by decide +kernel
theorem dX0_copyFrom_63 : decode cX0_copyFrom 63 = .ok (.getfield 31, 3) := by decide +kernel
theorem dX0_copyFrom_66 : decode cX0_copyFrom 66 = .ok (.iconst 0, 1) := by decide +kernel
theorem dX0_copyFrom_67 : decode cX0_copyFrom 67 = .ok (.aload_n 0, 1) := by decide +kernel
theorem dX0_copyFrom_68 : decode cX0_copyFrom 68 = .ok (.getfield 31, 3) := by decide +kernel
theorem dX0_copyFrom_71 : decode cX0_copyFrom 71 = .ok (.iconst 0, 1) := by decide +kernel
theorem dX0_copyFrom_72 : decode cX0_copyFrom 72 = .ok (.aload_n 0, 1) := by decide +kernel
theorem dX0_copyFrom_73 : decode cX0_copyFrom 73 = .ok (.getfield 28, 3) := by decide +kernel
theorem dX0_copyFrom_76 : decode cX0_copyFrom 76 = .ok (.invokestatic 43, 3) := by decide +kernel
theorem dX0_copyFrom_79 : decode cX0_copyFrom 79 = .ok (.aload_n 1, 1) := by decide +kernel
theorem dX0_copyFrom_80 : decode cX0_copyFrom 80 = .ok (.getfield 34, 3) := by decide +kernel
theorem dX0_copyFrom_83 : decode cX0_copyFrom 83 = .ok (.iconst 0, 1) := by decide +kernel
theorem dX0_copyFrom_84 : decode cX0_copyFrom 84 = .ok (.aload_n 0, 1) := by decide +kernel
theorem dX0_copyFrom_85 : decode cX0_copyFrom 85 = .ok (.getfield 34, 3) := by decide +kernel
theorem dX0_copyFrom_88 : decode cX0_copyFrom 88 = .ok (.iconst 0, 1) := by decide +kernel
theorem dX0_copyFrom_89 : decode cX0_copyFrom 89 = .ok (.aload_n 0, 1) := by decide +kernel
theorem dX0_copyFrom_90 : decode cX0_copyFrom 90 = .ok (.getfield 28, 3) := by decide +kernel
theorem dX0_copyFrom_93 : decode cX0_copyFrom 93 = .ok (.invokestatic 43, 3) := by decide +kernel
theorem dX0_copyFrom_96 : decode cX0_copyFrom 96 = .ok (.aload_n 1, 1) := by decide +kernel
theorem dX0_copyFrom_97 : decode cX0_copyFrom 97 = .ok (.getfield 37, 3) := by decide +kernel
theorem dX0_copyFrom_100 : decode cX0_copyFrom 100 = .ok (.iconst 0, 1) := by decide +kernel
theorem dX0_copyFrom_101 : decode cX0_copyFrom 101 = .ok (.aload_n 0, 1) := by decide +kernel
theorem dX0_copyFrom_102 : decode cX0_copyFrom 102 = .ok (.getfield 37, 3) := by decide +kernel
theorem dX0_copyFrom_105 : decode cX0_copyFrom 105 = .ok (.iconst 0, 1) := by decide +kernel
theorem dX0_copyFrom_106 : decode cX0_copyFrom 106 = .ok (.aload_n 0, 1) := by decide +kernel
theorem dX0_copyFrom_107 : decode cX0_copyFrom 107 = .ok (.getfield 28, 3) := by decide +kernel
theorem dX0_copyFrom_110 : decode cX0_copyFrom 110 = .ok (.invokestatic 43, 3) := by decide +kernel
theorem dX0_copyFrom_113 : decode cX0_copyFrom 113 = .ok (.aload_n 1, 1) := by decide +kernel
theorem dX0_copyFrom_114 : decode cX0_copyFrom 114 = .ok (.getfield 40, 3) := by decide +kernel
theorem dX0_copyFrom_117 : decode cX0_copyFrom 117 = .ok (.iconst 0, 1) := by decide +kernel
theorem dX0_copyFrom_118 : decode cX0_copyFrom 118 = .ok (.aload_n 0, 1) := by decide +kernel
theorem dX0_copyFrom_119 : decode cX0_copyFrom 119 = .ok (.getfield 40, 3) := by decide +kernel
theorem dX0_copyFrom_122 : decode cX0_copyFrom 122 = .ok (.iconst 0, 1) := by decide +kernel
theorem dX0_copyFrom_123 : decode cX0_copyFrom 123 = .ok (.aload_n 0, 1) := by decide +kernel
theorem dX0_copyFrom_124 : decode cX0_copyFrom 124 = .ok (.getfield 28, 3) := by decide +kernel
theorem dX0_copyFrom_127 : decode cX0_copyFrom 127 = .ok (.invokestatic 43, 3) := by decide +kernel
theorem dX0_copyFrom_130 : decode cX0_copyFrom 130 = .ok (.return_, 1) := by decide +kernel
theorem dX0_emptyLike_0 : decode cX0_emptyLike 0 = .ok (.aload_n 1, 1) := by decide +kernel
theorem dX0_emptyLike_1 : decode cX0_emptyLike 1 = .ok (.getfield 13, 3) := by decide +kernel
theorem dX0_emptyLike_4 : decode cX0_emptyLike 4 = .ok (.iconst 0, 1) := by decide +kernel
theorem dX0_emptyLike_5 : decode cX0_emptyLike 5 = .ok (.aload_n 0, 1) := by decide +kernel
theorem dX0_emptyLike_6 : decode cX0_emptyLike 6 = .ok (.getfield 13, 3) := by decide +kernel
theorem dX0_emptyLike_9 : decode cX0_emptyLike 9 = .ok (.iconst 0, 1) := by decide +kernel
theorem dX0_emptyLike_10 : decode cX0_emptyLike 10 = .ok (.aload_n 0, 1) := by decide +kernel
theorem dX0_emptyLike_11 : decode cX0_emptyLike 11 = .ok (.getfield 13, 3) := by decide +kernel
theorem dX0_emptyLike_14 : decode cX0_emptyLike 14 = .ok (.arraylength, 1) := by decide +kernel
theorem dX0_emptyLike_15 : decode cX0_emptyLike 15 = .ok (.invokestatic 43, 3) := by decide +kernel
theorem dX0_emptyLike_18 : decode cX0_emptyLike 18 = .ok (.iconst 0, 1) := by decide +kernel
theorem dX0_emptyLike_19 : decode cX0_emptyLike 19 = .ok (.istore_n 2, 1) := by decide +kernel
theorem dX0_emptyLike_20 : decode cX0_emptyLike 20 = .ok (.iload_n 2, 1) := by decide +kernel
theorem dX0_emptyLike_21 : decode cX0_emptyLike 21 = .ok (.iconst 3, 1) := by decide +kernel
theorem dX0_emptyLike_22 : decode cX0_emptyLike 22 = .ok (.if_icmp .ge 24, 3) := by decide +kernel
theorem dX0_emptyLike_25 : decode cX0_emptyLike 25 = .ok (.aload_n 0, 1) := by decide +kernel
theorem dX0_emptyLike_26 : decode cX0_emptyLike 26 = .ok (.getfield 20, 3) := by decide +kernel
theorem dX0_emptyLike_29 : decode cX0_emptyLike 29 = .ok (.iload_n 2, 1) := by decide +kernel
theorem dX0_emptyLike_30 : decode cX0_emptyLike 30 = .ok (.aaload, 1) := by decide +kernel
theorem dX0_emptyLike_31 : decode cX0_emptyLike 31 = .ok (.aload_n 1, 1) := by decide +kernel
theorem dX0_emptyLike_32 : decode cX0_emptyLike 32 = .ok (.getfield 20, 3) := by decide +kernel
theorem dX0_emptyLike_35 : decode cX0_emptyLike 35 = .ok (.iload_n 2, 1) := by decide +kernel
theorem dX0_emptyLike_36 : decode cX0_emptyLike 36 = .ok (.aaload, 1) := by decide +kernel
theorem dX0_emptyLike_37 : decode cX0_emptyLike 37 = .ok (.invokevirtual 54, 3) := by decide +kernel
theorem dX0_emptyLike_40 : decode cX0_emptyLike 40 = .ok (.iinc 2 1, 3) := by decide +kernel
theorem dX0_emptyLike_43 : decode cX0_emptyLike 43 = .ok (.goto (-23), 3) := by decide +kernel
theorem dX0_emptyLike_46 : decode cX0_emptyLike 46 = .ok (.aload_n 0, 1) := by decide +kernel
theorem dX0_emptyLike_47 : decode cX0_emptyLike 47 = .ok (.iconst 0, 1) := by decide +kernel
theorem dX0_emptyLike_48 : decode cX0_emptyLike 48 = .ok (.putfield 24, 3) := by decide +kernel
theorem dX0_emptyLike_51 : decode cX0_emptyLike 51 = .ok (.aload_n 0, 1) := by decide +kernel
theorem dX0_emptyLike_52 : decode cX0_emptyLike 52 = .ok (.iconst 0, 1) := by decide +kernel
theorem dX0_emptyLike_53 : decode cX0_emptyLike 53 = .ok (.putfield 28, 3) := by decide +kernel
theorem dX0_emptyLike_56 : decode cX0_emptyLike 56 = .ok (.return_, 1) := by decide +kernel
theorem dX0_changeSetting_0 : decode cX0_changeSetting 0 = .ok (.iload_n 1, 1) := by decide +kernel
theorem dX0_changeSetting_1 : decode cX0_changeSetting 1 = .ok (.ifCond .lt 12, 3) := by decide +kernel
theorem dX0_changeSetting_4 : decode cX0_changeSetting 4 = .ok (.iload_n 1, 1) := by decide +kernel
theorem dX0_changeSetting_5 : decode cX0_changeSetting 5 = .ok (.aload_n 0, 1) := by decide +kernel
theorem dX0_changeSetting_6 : decode cX0_changeSetting 6 = .ok (.getfield 13, 3) := by decide +kernel
theorem dX0_changeSetting_9 : decode cX0_changeSetting 9 = .ok (.arraylength, 1) := by decide +kernel
theorem dX0_changeSetting_10 : decode cX0_changeSetting 10 = .ok (.if_icmp .lt 6, 3) := by decide +kernel
theorem dX0_changeSetting_13 : decode cX0_changeSetting 13 = .ok (.bipush (-2), 2) := by decide +kernel
theorem dX0_changeSetting_15 : decode cX0_changeSetting 15 = .ok (.ireturn, 1) := by decide +kernel
theorem dX0_changeSetting_16 : decode cX0_changeSetting 16 = .ok (.iload_n 2, 1) := by decide +kernel
theorem dX0_changeSetting_17 : decode cX0_changeSetting 17 = .ok (.getstatic 57, 3) := by decide +kernel
theorem dX0_changeSetting_20 : decode cX0_changeSetting 20 = .ok (.iload_n 1, 1) := by decide +kernel
theorem dX0_changeSetting_21 : decode cX0_changeSetting 21 = .ok (.iaload, 1) := by decide +kernel
theorem dX0_changeSetting_22 : decode cX0_changeSetting 22 = .ok (.if_icmp .lt 12, 3) := by decide +kernel
theorem dX0_changeSetting_25 : decode cX0_changeSetting 25 = .ok (.iload_n 2, 1) := by decide +kernel
theorem dX0_changeSetting_26 : decode cX0_changeSetting 26 = .ok (.getstatic 60, 3) := by decide +kernel
theorem dX0_changeSetting_29 : decode cX0_changeSetting 29 = .ok (.iload_n 1, 1) := by decide +kernel
theorem dX0_changeSetting_30 : decode cX0_changeSetting 30 = .ok (.iaload, 1) := by decide +kernel
theorem dX0_changeSetting_31 : decode cX0_changeSetting 31 = .ok (.if_icmp .le 6, 3) := by decide +kernel
theorem dX0_changeSetting_34 : decode cX0_changeSetting 34 = .ok (.bipush (-2), 2) := by decide +kernel
theorem dX0_changeSetting_36 : decode cX0_changeSetting 36 = .ok (.ireturn, 1) := by decide +kernel
theorem dX0_changeSetting_37 : decode cX0_changeSetting 37 = .ok (.aload_n 0, 1) := by decide +kernel
theorem dX0_changeSetting_38 : decode cX0_changeSetting 38 = .ok (.getfield 13, 3) := by decide +kernel
theorem dX0_changeSetting_41 : decode cX0_changeSetting 41 = .ok (.iload_n 1, 1) := by decide +kernel
theorem dX0_changeSetting_42 : decode cX0_changeSetting 42 = .ok (.iaload, 1) := by decide +kernel
theorem dX0_changeSetting_43 : decode cX0_changeSetting 43 = .ok (.istore_n 3, 1) := by decide +kernel
theorem dX0_changeSetting_44 : decode cX0_changeSetting 44 = .ok (.aload_n 0, 1) := by decide +kernel
theorem dX0_changeSetting_45 : decode cX0_changeSetting 45 = .ok (.getfield 13, 3) := by decide +kernel
theorem dX0_changeSetting_48 : decode cX0_changeSetting 48 = .ok (.iload_n 1, 1) := by decide +kernel
theorem dX0_changeSetting_49 : decode cX0_changeSetting 49 = .ok (.iload_n 2, 1) := by decide +kernel
theorem dX0_changeSetting_50 : decode cX0_changeSetting 50 = .ok (.iastore, 1) := by decide +kernel
theorem dX0_changeSetting_51 : decode cX0_changeSetting 51 = .ok (.iload_n 3, 1) := by decide +kernel
theorem dX0_changeSetting_52 : decode cX0_changeSetting 52 = .ok (.ireturn, 1) := by decide +kernel
theorem dX0_changeBounds_0 : decode cX0_changeBounds 0 = .ok (.iload_n 1, 1) := by decide +kernel
theorem dX0_changeBounds_1 : decode cX0_changeBounds 1 = .ok (.invokestatic 63, 3) := by decide +kernel
theorem dX0_changeBounds_4 : decode cX0_changeBounds 4 = .ok (.ifCond .ne 5, 3) := by decide +kernel
theorem dX0_changeBounds_7 : decode cX0_changeBounds 7 = .ok (.iconst (-1), 1) := by decide +kernel
theorem dX0_changeBounds_8 : decode cX0_changeBounds 8 = .ok (.ireturn, 1) := by decide +kernel
theorem dX0_changeBounds_9 : decode cX0_changeBounds 9 = .ok (.iload_n 2, 1) := by decide +kernel
theorem dX0_changeBounds_10 : decode cX0_changeBounds 10 = .ok (.iconst 1, 1) := by decide +kernel
theorem dX0_changeBounds_11 : decode cX0_changeBounds 11 = .ok (.if_icmp .lt 20, 3) := by decide +kernel
theorem dX0_changeBounds_14 : decode cX0_changeBounds 14 = .ok (.iload_n 2, 1) := by decide +kernel
theorem dX0_changeBounds_15 : decode cX0_changeBounds 15 = .ok (.bipush 32, 2) := by decide +kernel
theorem dX0_changeBounds_17 : decode cX0_changeBounds 17 = .ok (.if_icmp .gt 14, 3) := by decide +kernel
theorem dX0_changeBounds_20 : decode cX0_changeBounds 20 = .ok (.iload_n 3, 1) := by decide +kernel
theorem dX0_changeBounds_21 : decode cX0_changeBounds 21 = .ok (.iconst 1, 1) := by decide +kernel
theorem dX0_changeBounds_22 : decode cX0_changeBounds 22 = .ok (.if_icmp .lt 9, 3) := by decide +kernel
theorem dX0_changeBounds_25 : decode cX0_changeBounds 25 = .ok (.iload_n 3, 1) := by decide +kernel
theorem dX0_changeBounds_26 : decode cX0_changeBounds 26 = .ok (.bipush 99, 2) := by decide +kernel
theorem dX0_changeBounds_28 : decode cX0_changeBounds 28 = .ok (.if_icmp .le 6, 3) := by decide +kernel
theorem dX0_changeBounds_31 : decode cX0_changeBounds 31 = .ok (.bipush (-2), 2) := by decide +kernel
theorem dX0_changeBounds_33 : decode cX0_changeBounds 33 = .ok (.ireturn, 1) := by decide +kernel
theorem dX0_changeBounds_34 : decode cX0_changeBounds 34 = .ok (.aload_n 0, 1) := by decide +kernel
theorem dX0_changeBounds_35 : decode cX0_changeBounds 35 = .ok (.getfield 20, 3) := by decide +kernel
theorem dX0_changeBounds_38 : decode cX0_changeBounds 38 = .ok (.iload_n 1, 1) := by decide +kernel
theorem dX0_changeBounds_39 : decode cX0_changeBounds 39 = .ok (.aaload, 1) := by decide +kernel
theorem dX0_changeBounds_40 : decode cX0_changeBounds 40 = .ok (.astore 4, 2) := by decide +kernel
theorem dX0_changeBounds_42 : decode cX0_changeBounds 42 = .ok (.aload 4, 2) := by decide +kernel
theorem dX0_changeBounds_44 : decode cX0_changeBounds 44 = .ok (.getfield 67, 3) := by decide +kernel
theorem dX0_changeBounds_47 : decode cX0_changeBounds 47 = .ok (.istore 5, 2) := by decide +kernel
theorem dX0_changeBounds_49 : decode cX0_changeBounds 49 = .ok (.aload 4, 2) := by decide +kernel
theorem dX0_changeBounds_51 : decode cX0_changeBounds 51 = .ok (.iload_n 2, 1) := by decide +kernel
theorem dX0_changeBounds_52 : decode cX0_changeBounds 52 = .ok (.putfield 67, 3) := by decide +kernel
theorem dX0_changeBounds_55 : decode cX0_changeBounds 55 = .ok (.aload 4, 2) := by decide +kernel
theorem dX0_changeBounds_57 : decode cX0_changeBounds 57 = .ok (.iload_n 3, 1) := by decide +kernel
theorem dX0_changeBounds_58 : decode cX0_changeBounds 58 = .ok (.putfield 70, 3) := by decide +kernel
theorem dX0_changeBounds_61 : decode cX0_changeBounds 61 = .ok (.aload 4, 2) := by decide +kernel
theorem dX0_changeBounds_63 : decode cX0_changeBounds 63 = .ok (.iload_n 2, 1) := by decide +kernel
theorem dX0_changeBounds_64 : decode cX0_changeBounds 64 = .ok (.putfield 73, 3) := by decide +kernel
theorem dX0_changeBounds_67 : decode cX0_changeBounds 67 = .ok (.iload 5, 2) := by decide +kernel
theorem dX0_changeBounds_69 : decode cX0_changeBounds 69 = .ok (.ireturn, 1) := by decide +kernel
theorem dX0_receive_0 : decode cX0_receive 0 = .ok (.iload_n 1, 1) := by decide +kernel
theorem dX0_receive_1 : decode cX0_receive 1 = .ok (.ifCond .lt 9, 3) := by decide +kernel
theorem dX0_receive_4 : decode cX0_receive 4 = .ok (.iload_n 1, 1) := by decide +kernel
theorem dX0_receive_5 : decode cX0_receive 5 = .ok (.bipush 99, 2) := by decide +kernel
theorem dX0_receive_7 : decode cX0_receive 7 = .ok (.if_icmp .le 6, 3) := by decide +kernel
theorem dX0_receive_10 : decode cX0_receive 10 = .ok (.bipush (-2), 2) := by decide +kernel
theorem dX0_receive_12 : decode cX0_receive 12 = .ok (.ireturn, 1) := by decide +kernel
theorem dX0_receive_13 : decode cX0_receive 13 = .ok (.aload_n 0, 1) := by decide +kernel
theorem dX0_receive_14 : decode cX0_receive 14 = .ok (.getfield 28, 3) := by decide +kernel
theorem dX0_receive_17 : decode cX0_receive 17 = .ok (.sipush 400, 3) := by decide +kernel
theorem dX0_receive_20 : decode cX0_receive 20 = .ok (.if_icmp .lt 6, 3) := by decide +kernel
theorem dX0_receive_23 : decode cX0_receive 23 = .ok (.bipush (-4), 2) := by decide +kernel
theorem dX0_receive_25 : decode cX0_receive 25 = .ok (.ireturn, 1) := by decide +kernel
theorem dX0_receive_26 : decode cX0_receive 26 = .ok (.aload_n 0, 1) := by decide +kernel
theorem dX0_receive_27 : decode cX0_receive 27 = .ok (.getfield 28, 3) := by decide +kernel
theorem dX0_receive_30 : decode cX0_receive 30 = .ok (.istore_n 2, 1) := by decide +kernel
theorem dX0_receive_31 : decode cX0_receive 31 = .ok (.aload_n 0, 1) := by decide +kernel
theorem dX0_receive_32 : decode cX0_receive 32 = .ok (.dup, 1) := by decide +kernel
theorem dX0_receive_33 : decode cX0_receive 33 = .ok (.getfield 28, 3) := by decide +kernel
theorem dX0_receive_36 : decode cX0_receive 36 = .ok (.iconst 1, 1) := by decide +kernel
theorem dX0_receive_37 : decode cX0_receive 37 = .ok (.iadd, 1) := by decide +kernel
theorem dX0_receive_38 : decode cX0_receive 38 = .ok (.putfield 28, 3) := by decide +kernel
theorem dX0_receive_41 : decode cX0_receive 41 = .ok (.aload_n 0, 1) := by decide +kernel
theorem dX0_receive_42 : decode cX0_receive 42 = .ok (.getfield 31, 3) := by decide +kernel
theorem dX0_receive_45 : decode cX0_receive 45 = .ok (.iload_n 2, 1) := by decide +kernel
theorem dX0_receive_46 : decode cX0_receive 46 = .ok (.iload_n 1, 1) := by decide +kernel
theorem dX0_receive_47 : decode cX0_receive 47 = .ok (.iastore, 1) := by decide +kernel
theorem dX0_receive_48 : decode cX0_receive 48 = .ok (.aload_n 0, 1) := by decide +kernel
theorem dX0_receive_49 : decode cX0_receive 49 = .ok (.getfield 34, 3) := by decide +kernel
theorem dX0_receive_52 : decode cX0_receive 52 = .ok (.iload_n 2, 1) := by decide +kernel
theorem dX0_receive_53 : decode cX0_receive 53 = .ok (.aload_n 0, 1) := by decide +kernel
theorem dX0_receive_54 : decode cX0_receive 54 = .ok (.getfield 24, 3) := by decide +kernel
theorem dX0_receive_57 : decode cX0_receive 57 = .ok (.iastore, 1) := by decide +kernel
theorem dX0_receive_58 : decode cX0_receive 58 = .ok (.aload_n 0, 1) := by decide +kernel
theorem dX0_receive_59 : decode cX0_receive 59 = .ok (.getfield 20, 3) := by decide +kernel
theorem dX0_receive_62 : decode cX0_receive 62 = .ok (.iload_n 1, 1) := by decide +kernel
theorem dX0_receive_63 : decode cX0_receive 63 = .ok (.iconst 3, 1) := by decide +kernel
theorem dX0_receive_64 : decode cX0_receive 64 = .ok (.irem, 1) := by decide +kernel
theorem dX0_receive_65 : decode cX0_receive 65 = .ok (.aaload, 1) := by decide +kernel
theorem dX0_receive_66 : decode cX0_receive 66 = .ok (.astore_n 3, 1) := by decide +kernel
theorem dX0_receive_67 : decode cX0_receive 67 = .ok (.aload_n 3, 1) := by decide +kernel
theorem dX0_receive_68 : decode cX0_receive 68 = .ok (.getfield 76, 3) := by decide +kernel
theorem dX0_receive_71 : decode cX0_receive 71 = .ok (.aload_n 0, 1) := by decide +kernel
theorem dX0_receive_72 : decode cX0_receive 72 = .ok (.getfield 13, 3) := by decide +kernel
theorem dX0_receive_75 : decode cX0_receive 75 = .ok (.iconst 0, 1) := by decide +kernel
theorem dX0_receive_76 : decode cX0_receive 76 = .ok (.iaload, 1) := by decide +kernel
theorem dX0_receive_77 : decode cX0_receive 77 = .ok (.if_icmp .lt 22, 3) := by decide +kernel
theorem dX0_receive_80 : decode cX0_receive 80 = .ok (.aload_n 0, 1) := by decide +kernel
theorem dX0_receive_81 : decode cX0_receive 81 = .ok (.getfield 37, 3) := by decide +kernel
theorem dX0_receive_84 : decode cX0_receive 84 = .ok (.iload_n 2, 1) := by decide +kernel
theorem dX0_receive_85 : decode cX0_receive 85 = .ok (.iconst 2, 1) := by decide +kernel
theorem dX0_receive_86 : decode cX0_receive 86 = .ok (.iastore, 1) := by decide +kernel
theorem dX0_receive_87 : decode cX0_receive 87 = .ok (.aload_n 3, 1) := by decide +kernel
theorem dX0_receive_88 : decode cX0_receive 88 = .ok (.dup, 1) := by decide +kernel
theorem dX0_receive_89 : decode cX0_receive 89 = .ok (.getfield 79, 3) := by decide +kernel
theorem dX0_receive_92 : decode cX0_receive 92 = .ok (.iconst 1, 1) := by decide +kernel
theorem dX0_receive_93 : decode cX0_receive 93 = .ok (.iadd, 1) := by decide +kernel
theorem dX0_receive_94 : decode cX0_receive 94 = .ok (.putfield 79, 3) := by decide +kernel
theorem dX0_receive_97 : decode cX0_receive 97 = .ok (.iload_n 2, 1) := by decide +kernel
theorem dX0_receive_98 : decode cX0_receive 98 = .ok (.ireturn, 1) := by decide +kernel
theorem dX0_receive_99 : decode cX0_receive 99 = .ok (.aload_n 0, 1) := by decide +kernel
theorem dX0_receive_100 : decode cX0_receive 100 = .ok (.getfield 37, 3) := by decide +kernel
theorem dX0_receive_103 : decode cX0_receive 103 = .ok (.iload_n 2, 1) := by decide +kernel
theorem dX0_receive_104 : decode cX0_receive 104 = .ok (.iconst 0, 1) := by decide +kernel
theorem dX0_receive_105 : decode cX0_receive 105 = .ok (.iastore, 1) := by decide +kernel
theorem dX0_receive_106 : decode cX0_receive 106 = .ok (.aload_n 3, 1) := by decide +kernel
theorem dX0_receive_107 : decode cX0_receive 107 = .ok (.dup, 1) := by decide +kernel
theorem dX0_receive_108 : decode cX0_receive 108 = .ok (.getfield 76, 3) := by decide +kernel
theorem dX0_receive_111 : decode cX0_receive 111 = .ok (.iconst 1, 1) := by decide +kernel
theorem dX0_receive_112 : decode cX0_receive 112 = .ok (.iadd, 1) := by decide +kernel
theorem dX0_receive_113 : decode cX0_receive 113 = .ok (.putfield 76, 3) := by decide +kernel
theorem dX0_receive_116 : decode cX0_receive 116 = .ok (.aload_n 3, 1) := by decide +kernel
theorem dX0_receive_117 : decode cX0_receive 117 = .ok (.getfield 82, 3) := by decide +kernel
theorem dX0_receive_120 : decode cX0_receive 120 = .ok (.bipush (-6), 2) := by decide +kernel
theorem dX0_receive_122 : decode cX0_receive 122 = .ok (.if_icmp .ne 8, 3) := by decide +kernel
theorem dX0_receive_125 : decode cX0_receive 125 = .ok (.aload_n 3, 1) := by decide +kernel
theorem dX0_receive_126 : decode cX0_receive 126 = .ok (.iload_n 2, 1) := by decide +kernel
theorem dX0_receive_127 : decode cX0_receive 127 = .ok (.putfield 82, 3) := by decide +kernel
theorem dX0_receive_130 : decode cX0_receive 130 = .ok (.iload_n 2, 1) := by decide +kernel
theorem dX0_receive_131 : decode cX0_receive 131 = .ok (.ireturn, 1) := by decide +kernel
theorem dX0_changeMask_0 : decode cX0_changeMask 0 = .ok (.iload_n 1, 1) := by decide +kernel
theorem dX0_changeMask_1 : decode cX0_changeMask 1 = .ok (.invokestatic 63, 3) := by decide +kernel
theorem dX0_changeMask_4 : decode cX0_changeMask 4 = .ok (.ifCond .ne 5, 3) := by decide +kernel
theorem dX0_changeMask_7 : decode cX0_changeMask 7 = .ok (.iconst (-1), 1) := by decide +kernel
theorem dX0_changeMask_8 : decode cX0_changeMask 8 = .ok (.ireturn, 1) := by decide +kernel
theorem dX0_changeMask_9 : decode cX0_changeMask 9 = .ok (.aload_n 0, 1) := by decide +kernel
theorem dX0_changeMask_10 : decode cX0_changeMask 10 = .ok (.getfield 20, 3) := by decide +kernel
theorem dX0_changeMask_13 : decode cX0_changeMask 13 = .ok (.iload_n 1, 1) := by decide +kernel
theorem dX0_changeMask_14 : decode cX0_changeMask 14 = .ok (.aaload, 1) := by decide +kernel
theorem dX0_changeMask_15 : decode cX0_changeMask 15 = .ok (.astore_n 2, 1) := by decide +kernel
theorem dX0_changeMask_16 : decode cX0_changeMask 16 = .ok (.aload_n 2, 1) := by decide +kernel
theorem dX0_changeMask_17 : decode cX0_changeMask 17 = .ok (.aload_n 2, 1) := by decide +kernel
theorem dX0_changeMask_18 : decode cX0_changeMask 18 = .ok (.getfield 85, 3) := by decide +kernel
theorem dX0_changeMask_21 : decode cX0_changeMask 21 = .ok (.ifCond .ne 7, 3) := by decide +kernel
theorem dX0_changeMask_24 : decode cX0_changeMask 24 = .ok (.iconst 1, 1) := by decide +kernel
theorem dX0_changeMask_25 : decode cX0_changeMask 25 = .ok (.goto 4, 3) := by decide +kernel
theorem dX0_changeMask_28 : decode cX0_changeMask 28 = .ok (.iconst 0, 1) := by decide +kernel
theorem dX0_changeMask_29 : decode cX0_changeMask 29 = .ok (.putfield 85, 3) := by decide +kernel
theorem dX0_changeMask_32 : decode cX0_changeMask 32 = .ok (.aload_n 2, 1) := by decide +kernel
theorem dX0_changeMask_33 : decode cX0_changeMask 33 = .ok (.getfield 85, 3) := by decide +kernel
theorem dX0_changeMask_36 : decode cX0_changeMask 36 = .ok (.ifCond .eq 7, 3) := by decide +kernel
theorem dX0_changeMask_39 : decode cX0_changeMask 39 = .ok (.iconst 1, 1) := by decide +kernel
theorem dX0_changeMask_40 : decode cX0_changeMask 40 = .ok (.goto 4, 3) := by decide +kernel
theorem dX0_changeMask_43 : decode cX0_changeMask 43 = .ok (.iconst 0, 1) := by decide +kernel
theorem dX0_changeMask_44 : decode cX0_changeMask 44 = .ok (.ireturn, 1) := by decide +kernel
theorem dX0_callByHand_0 : decode cX0_callByHand 0 = .ok (.iload_n 1, 1) := by decide +kernel
theorem dX0_callByHand_1 : decode cX0_callByHand 1 = .ok (.invokestatic 63, 3) := by decide +kernel
theorem dX0_callByHand_4 : decode cX0_callByHand 4 = .ok (.ifCond .ne 5, 3) := by decide +kernel
theorem dX0_callByHand_7 : decode cX0_callByHand 7 = .ok (.iconst (-1), 1) := by decide +kernel
theorem dX0_callByHand_8 : decode cX0_callByHand 8 = .ok (.ireturn, 1) := by decide +kernel
theorem dX0_callByHand_9 : decode cX0_callByHand 9 = .ok (.aload_n 0, 1) := by decide +kernel
theorem dX0_callByHand_10 : decode cX0_callByHand 10 = .ok (.getfield 20, 3) := by decide +kernel
theorem dX0_callByHand_13 : decode cX0_callByHand 13 = .ok (.iload_n 1, 1) := by decide +kernel
theorem dX0_callByHand_14 : decode cX0_callByHand 14 = .ok (.aaload, 1) := by decide +kernel
theorem dX0_callByHand_15 : decode cX0_callByHand 15 = .ok (.astore_n 2, 1) := by decide +kernel
theorem dX0_callByHand_16 : decode cX0_callByHand 16 = .ok (.aload_n 2, 1) := by decide +kernel
theorem dX0_callByHand_17 : decode cX0_callByHand 17 = .ok (.invokevirtual 89, 3) := by decide +kernel
theorem dX0_callByHand_20 : decode cX0_callByHand 20 = .ok (.ifCond .ne 10, 3) := by decide +kernel
theorem dX0_callByHand_23 : decode cX0_callByHand 23 = .ok (.aload_n 2, 1) := by decide +kernel
theorem dX0_callByHand_24 : decode cX0_callByHand 24 = .ok (.getfield 76, 3) := by decide +kernel
theorem dX0_callByHand_27 : decode cX0_callByHand 27 = .ok (.ifCond .ne 6, 3) := by decide +kernel
theorem dX0_callByHand_30 : decode cX0_callByHand 30 = .ok (.bipush (-5), 2) := by decide +kernel
theorem dX0_callByHand_32 : decode cX0_callByHand 32 = .ok (.ireturn, 1) := by decide +kernel
theorem dX0_callByHand_33 : decode cX0_callByHand 33 = .ok (.aload_n 0, 1) := by decide +kernel
theorem dX0_callByHand_34 : decode cX0_callByHand 34 = .ok (.aload_n 2, 1) := by decide +kernel
theorem dX0_callByHand_35 : decode cX0_callByHand 35 = .ok (.invokevirtual 93, 3) := by decide +kernel
theorem dX0_callByHand_38 : decode cX0_callByHand 38 = .ok (.aload_n 2, 1) := by decide +kernel
theorem dX0_callByHand_39 : decode cX0_callByHand 39 = .ok (.getfield 96, 3) := by decide +kernel
theorem dX0_callByHand_42 : decode cX0_callByHand 42 = .ok (.ireturn, 1) := by decide +kernel
theorem dX0_passTicks_0 : decode cX0_passTicks 0 = .ok (.iload_n 1, 1) := by decide +kernel
theorem dX0_passTicks_1 : decode cX0_passTicks 1 = .ok (.iconst 1, 1) := by decide +kernel
theorem dX0_passTicks_2 : decode cX0_passTicks 2 = .ok (.if_icmp .lt 9, 3) := by decide +kernel
theorem dX0_passTicks_5 : decode cX0_passTicks 5 = .ok (.iload_n 1, 1) := by decide +kernel
theorem dX0_passTicks_6 : decode cX0_passTicks 6 = .ok (.bipush 99, 2) := by decide +kernel
theorem dX0_passTicks_8 : decode cX0_passTicks 8 = .ok (.if_icmp .le 6, 3) := by decide +kernel
theorem dX0_passTicks_11 : decode cX0_passTicks 11 = .ok (.bipush (-2), 2) := by decide +kernel
theorem dX0_passTicks_13 : decode cX0_passTicks 13 = .ok (.ireturn, 1) := by decide +kernel
theorem dX0_passTicks_14 : decode cX0_passTicks 14 = .ok (.aload_n 0, 1) := by decide +kernel
theorem dX0_passTicks_15 : decode cX0_passTicks 15 = .ok (.getfield 24, 3) := by decide +kernel
theorem dX0_passTicks_18 : decode cX0_passTicks 18 = .ok (.iload_n 1, 1) := by decide +kernel
theorem dX0_passTicks_19 : decode cX0_passTicks 19 = .ok (.iadd, 1) := by decide +kernel
theorem dX0_passTicks_20 : decode cX0_passTicks 20 = .ok (.sipush 9999, 3) := by decide +kernel
theorem dX0_passTicks_23 : decode cX0_passTicks 23 = .ok (.if_icmp .le 6, 3) := by decide +kernel
theorem dX0_passTicks_26 : decode cX0_passTicks 26 = .ok (.bipush (-5), 2) := by decide +kernel
theorem dX0_passTicks_28 : decode cX0_passTicks 28 = .ok (.ireturn, 1) := by decide +kernel
theorem dX0_passTicks_29 : decode cX0_passTicks 29 = .ok (.aload_n 0, 1) := by decide +kernel
theorem dX0_passTicks_30 : decode cX0_passTicks 30 = .ok (.iload_n 1, 1) := by decide +kernel
theorem dX0_passTicks_31 : decode cX0_passTicks 31 = .ok (.invokevirtual 99, 3) := by decide +kernel
theorem dX0_passTicks_34 : decode cX0_passTicks 34 = .ok (.ireturn, 1) := by decide +kernel
theorem dX0_runTicks_0 : decode cX0_runTicks 0 = .ok (.iconst 0, 1) := by decide +kernel
theorem dX0_runTicks_1 : decode cX0_runTicks 1 = .ok (.istore_n 2, 1) := by decide +kernel
theorem dX0_runTicks_2 : decode cX0_runTicks 2 = .ok (.iconst 0, 1) := by decide +kernel
theorem dX0_runTicks_3 : decode cX0_runTicks 3 = .ok (.istore_n 3, 1) := by decide +kernel
theorem dX0_runTicks_4 : decode cX0_runTicks 4 = .ok (.iload_n 3, 1) := by decide +kernel
theorem dX0_runTicks_5 : decode cX0_runTicks 5 = .ok (.iload_n 1, 1) := by decide +kernel
theorem dX0_runTicks_6 : decode cX0_runTicks 6 = .ok (.if_icmp .ge 16, 3) := by decide +kernel
theorem dX0_runTicks_9 : decode cX0_runTicks 9 = .ok (.iload_n 2, 1) := by decide +kernel
theorem dX0_runTicks_10 : decode cX0_runTicks 10 = .ok (.aload_n 0, 1) := by decide +kernel
theorem dX0_runTicks_11 : decode cX0_runTicks 11 = .ok (.invokevirtual 103, 3) := by decide +kernel
theorem dX0_runTicks_14 : decode cX0_runTicks 14 = .ok (.iadd, 1) := by decide +kernel
theorem dX0_runTicks_15 : decode cX0_runTicks 15 = .ok (.istore_n 2, 1) := by decide +kernel
theorem dX0_runTicks_16 : decode cX0_runTicks 16 = .ok (.iinc 3 1, 3) := by decide +kernel
theorem dX0_runTicks_19 : decode cX0_runTicks 19 = .ok (.goto (-15), 3) := by decide +kernel
theorem dX0_runTicks_22 : decode cX0_runTicks 22 = .ok (.iload_n 2, 1) := by decide +kernel
theorem dX0_runTicks_23 : decode cX0_runTicks 23 = .ok (.ireturn, 1) := by decide +kernel
theorem dX0_tick_0 : decode cX0_tick 0 = .ok (.aload_n 0, 1) := by decide +kernel
theorem dX0_tick_1 : decode cX0_tick 1 = .ok (.invokevirtual 107, 3) := by decide +kernel
theorem dX0_tick_4 : decode cX0_tick 4 = .ok (.istore_n 1, 1) := by decide +kernel
theorem dX0_tick_5 : decode cX0_tick 5 = .ok (.iconst 0, 1) := by decide +kernel
theorem dX0_tick_6 : decode cX0_tick 6 = .ok (.istore_n 2, 1) := by decide +kernel
theorem dX0_tick_7 : decode cX0_tick 7 = .ok (.iload_n 2, 1) := by decide +kernel
theorem dX0_tick_8 : decode cX0_tick 8 = .ok (.iconst 3, 1) := by decide +kernel
theorem dX0_tick_9 : decode cX0_tick 9 = .ok (.if_icmp .ge 32, 3) := by decide +kernel
theorem dX0_tick_12 : decode cX0_tick 12 = .ok (.aload_n 0, 1) := by decide +kernel
theorem dX0_tick_13 : decode cX0_tick 13 = .ok (.aload_n 0, 1) := by decide +kernel
theorem dX0_tick_14 : decode cX0_tick 14 = .ok (.getfield 20, 3) := by decide +kernel
theorem dX0_tick_17 : decode cX0_tick 17 = .ok (.iload_n 2, 1) := by decide +kernel
theorem dX0_tick_18 : decode cX0_tick 18 = .ok (.aaload, 1) := by decide +kernel
theorem dX0_tick_19 : decode cX0_tick 19 = .ok (.invokevirtual 110, 3) := by decide +kernel
theorem dX0_tick_22 : decode cX0_tick 22 = .ok (.ifCond .ne 13, 3) := by decide +kernel
theorem dX0_tick_25 : decode cX0_tick 25 = .ok (.aload_n 0, 1) := by decide +kernel
theorem dX0_tick_26 : decode cX0_tick 26 = .ok (.aload_n 0, 1) := by decide +kernel
theorem dX0_tick_27 : decode cX0_tick 27 = .ok (.getfield 20, 3) := by decide +kernel
theorem dX0_tick_30 : decode cX0_tick 30 = .ok (.iload_n 2, 1) := by decide +kernel
theorem dX0_tick_31 : decode cX0_tick 31 = .ok (.aaload, 1) := by decide +kernel
theorem dX0_tick_32 : decode cX0_tick 32 = .ok (.invokevirtual 93, 3) := by decide +kernel
theorem dX0_tick_35 : decode cX0_tick 35 = .ok (.iinc 2 1, 3) := by decide +kernel
theorem dX0_tick_38 : decode cX0_tick 38 = .ok (.goto (-31), 3) := by decide +kernel
theorem dX0_tick_41 : decode cX0_tick 41 = .ok (.aload_n 0, 1) := by decide +kernel
theorem dX0_tick_42 : decode cX0_tick 42 = .ok (.dup, 1) := by decide +kernel
theorem dX0_tick_43 : decode cX0_tick 43 = .ok (.getfield 24, 3) := by decide +kernel
theorem dX0_tick_46 : decode cX0_tick 46 = .ok (.iconst 1, 1) := by decide +kernel
theorem dX0_tick_47 : decode cX0_tick 47 = .ok (.iadd, 1) := by decide +kernel
theorem dX0_tick_48 : decode cX0_tick 48 = .ok (.putfield 24, 3) := by decide +kernel
theorem dX0_tick_51 : decode cX0_tick 51 = .ok (.iload_n 1, 1) := by decide +kernel
theorem dX0_tick_52 : decode cX0_tick 52 = .ok (.ireturn, 1) := by decide +kernel
theorem dX0_poll_0 : decode cX0_poll 0 = .ok (.aload_n 0, 1) := by decide +kernel
theorem dX0_poll_1 : decode cX0_poll 1 = .ok (.iconst 0, 1) := by decide +kernel
theorem dX0_poll_2 : decode cX0_poll 2 = .ok (.invokevirtual 114, 3) := by decide +kernel
theorem dX0_poll_5 : decode cX0_poll 5 = .ok (.istore_n 1, 1) := by decide +kernel
theorem dX0_poll_6 : decode cX0_poll 6 = .ok (.iload_n 1, 1) := by decide +kernel
theorem dX0_poll_7 : decode cX0_poll 7 = .ok (.invokestatic 63, 3) := by decide +kernel
theorem dX0_poll_10 : decode cX0_poll 10 = .ok (.ifCond .ne 5, 3) := by decide +kernel
theorem dX0_poll_13 : decode cX0_poll 13 = .ok (.iconst 0, 1) := by decide +kernel
theorem dX0_poll_14 : decode cX0_poll 14 = .ok (.ireturn, 1) := by decide +kernel
theorem dX0_poll_15 : decode cX0_poll 15 = .ok (.aload_n 0, 1) := by decide +kernel
theorem dX0_poll_16 : decode cX0_poll 16 = .ok (.getfield 20, 3) := by decide +kernel
theorem dX0_poll_19 : decode cX0_poll 19 = .ok (.iload_n 1, 1) := by decide +kernel
theorem dX0_poll_20 : decode cX0_poll 20 = .ok (.aaload, 1) := by decide +kernel
theorem dX0_poll_21 : decode cX0_poll 21 = .ok (.astore_n 2, 1) := by decide +kernel
theorem dX0_poll_22 : decode cX0_poll 22 = .ok (.iconst 0, 1) := by decide +kernel
theorem dX0_poll_23 : decode cX0_poll 23 = .ok (.istore_n 3, 1) := by decide +kernel
theorem dX0_poll_24 : decode cX0_poll 24 = .ok (.iload_n 3, 1) := by decide +kernel
theorem dX0_poll_25 : decode cX0_poll 25 = .ok (.aload_n 0, 1) := by decide +kernel
theorem dX0_poll_26 : decode cX0_poll 26 = .ok (.getfield 13, 3) := by decide +kernel
theorem dX0_poll_29 : decode cX0_poll 29 = .ok (.iconst 1, 1) := by decide +kernel
theorem dX0_poll_30 : decode cX0_poll 30 = .ok (.iaload, 1) := by decide +kernel
theorem dX0_poll_31 : decode cX0_poll 31 = .ok (.if_icmp .ge 26, 3) := by decide +kernel
theorem dX0_poll_34 : decode cX0_poll 34 = .ok (.aload_n 0, 1) := by decide +kernel
theorem dX0_poll_35 : decode cX0_poll 35 = .ok (.aload_n 2, 1) := by decide +kernel
theorem dX0_poll_36 : decode cX0_poll 36 = .ok (.getfield 82, 3) := by decide +kernel
theorem dX0_poll_39 : decode cX0_poll 39 = .ok (.invokevirtual 117, 3) := by decide +kernel
theorem dX0_poll_42 : decode cX0_poll 42 = .ok (.ifCond .eq 15, 3) := by decide +kernel
theorem dX0_poll_45 : decode cX0_poll 45 = .ok (.aload_n 0, 1) := by decide +kernel
theorem dX0_poll_46 : decode cX0_poll 46 = .ok (.aload_n 2, 1) := by decide +kernel
theorem dX0_poll_47 : decode cX0_poll 47 = .ok (.iload_n 1, 1) := by decide +kernel
theorem dX0_poll_48 : decode cX0_poll 48 = .ok (.invokevirtual 120, 3) := by decide +kernel
theorem dX0_poll_51 : decode cX0_poll 51 = .ok (.iinc 3 1, 3) := by decide +kernel
theorem dX0_poll_54 : decode cX0_poll 54 = .ok (.goto (-30), 3) := by decide +kernel
theorem dX0_poll_57 : decode cX0_poll 57 = .ok (.aload_n 0, 1) := by decide +kernel
theorem dX0_poll_58 : decode cX0_poll 58 = .ok (.aload_n 2, 1) := by decide +kernel
theorem dX0_poll_59 : decode cX0_poll 59 = .ok (.invokevirtual 124, 3) := by decide +kernel
theorem dX0_poll_62 : decode cX0_poll 62 = .ok (.iload_n 3, 1) := by decide +kernel
theorem dX0_poll_63 : decode cX0_poll 63 = .ok (.aload_n 0, 1) := by decide +kernel
theorem dX0_poll_64 : decode cX0_poll 64 = .ok (.getfield 13, 3) := by decide +kernel
theorem dX0_poll_67 : decode cX0_poll 67 = .ok (.iconst 1, 1) := by decide +kernel
theorem dX0_poll_68 : decode cX0_poll 68 = .ok (.iaload, 1) := by decide +kernel
theorem dX0_poll_69 : decode cX0_poll 69 = .ok (.if_icmp .ge 25, 3) := by decide +kernel
theorem dX0_poll_72 : decode cX0_poll 72 = .ok (.aload_n 2, 1) := by decide +kernel
theorem dX0_poll_73 : decode cX0_poll 73 = .ok (.aload_n 0, 1) := by decide +kernel
theorem dX0_poll_74 : decode cX0_poll 74 = .ok (.getfield 13, 3) := by decide +kernel
theorem dX0_poll_77 : decode cX0_poll 77 = .ok (.iconst 2, 1) := by decide +kernel
theorem dX0_poll_78 : decode cX0_poll 78 = .ok (.iaload, 1) := by decide +kernel
theorem dX0_poll_79 : decode cX0_poll 79 = .ok (.iconst 1, 1) := by decide +kernel
theorem dX0_poll_80 : decode cX0_poll 80 = .ok (.if_icmp .ne 7, 3) := by decide +kernel
theorem dX0_poll_83 : decode cX0_poll 83 = .ok (.iconst 1, 1) := by decide +kernel
theorem dX0_poll_84 : decode cX0_poll 84 = .ok (.goto 4, 3) := by decide +kernel
theorem dX0_poll_87 : decode cX0_poll 87 = .ok (.iconst 0, 1) := by decide +kernel
theorem dX0_poll_88 : decode cX0_poll 88 = .ok (.invokevirtual 127, 3) := by decide +kernel
theorem dX0_poll_91 : decode cX0_poll 91 = .ok (.goto 11, 3) := by decide +kernel
theorem dX0_poll_94 : decode cX0_poll 94 = .ok (.aload_n 2, 1) := by decide +kernel
theorem dX0_poll_95 : decode cX0_poll 95 = .ok (.aload_n 0, 1) := by decide +kernel
theorem dX0_poll_96 : decode cX0_poll 96 = .ok (.invokevirtual 131, 3) := by decide +kernel
theorem dX0_poll_99 : decode cX0_poll 99 = .ok (.putfield 96, 3) := by decide +kernel
theorem dX0_poll_102 : decode cX0_poll 102 = .ok (.iload_n 3, 1) := by decide +kernel
theorem dX0_poll_103 : decode cX0_poll 103 = .ok (.ireturn, 1) := by decide +kernel
theorem dX0_takeOldest_0 : decode cX0_takeOldest 0 = .ok (.aload_n 1, 1) := by decide +kernel
theorem dX0_takeOldest_1 : decode cX0_takeOldest 1 = .ok (.getfield 82, 3) := by decide +kernel
theorem dX0_takeOldest_4 : decode cX0_takeOldest 4 = .ok (.istore_n 3, 1) := by decide +kernel
theorem dX0_takeOldest_5 : decode cX0_takeOldest 5 = .ok (.aload_n 0, 1) := by decide +kernel
theorem dX0_takeOldest_6 : decode cX0_takeOldest 6 = .ok (.getfield 37, 3) := by decide +kernel
theorem dX0_takeOldest_9 : decode cX0_takeOldest 9 = .ok (.iload_n 3, 1) := by decide +kernel
theorem dX0_takeOldest_10 : decode cX0_takeOldest 10 = .ok (.iconst 1, 1) := by decide +kernel
theorem dX0_takeOldest_11 : decode cX0_takeOldest 11 = .ok (.iastore, 1) := by decide +kernel
theorem dX0_takeOldest_12 : decode cX0_takeOldest 12 = .ok (.aload_n 0, 1) := by decide +kernel
theorem dX0_takeOldest_13 : decode cX0_takeOldest 13 = .ok (.getfield 40, 3) := by decide +kernel
theorem dX0_takeOldest_16 : decode cX0_takeOldest 16 = .ok (.iload_n 3, 1) := by decide +kernel
theorem dX0_takeOldest_17 : decode cX0_takeOldest 17 = .ok (.aload_n 0, 1) := by decide +kernel
theorem dX0_takeOldest_18 : decode cX0_takeOldest 18 = .ok (.getfield 24, 3) := by decide +kernel
theorem dX0_takeOldest_21 : decode cX0_takeOldest 21 = .ok (.iastore, 1) := by decide +kernel
theorem dX0_takeOldest_22 : decode cX0_takeOldest 22 = .ok (.aload_n 1, 1) := by decide +kernel
theorem dX0_takeOldest_23 : decode cX0_takeOldest 23 = .ok (.aload_n 0, 1) := by decide +kernel
theorem dX0_takeOldest_24 : decode cX0_takeOldest 24 = .ok (.getfield 24, 3) := by decide +kernel
theorem dX0_takeOldest_27 : decode cX0_takeOldest 27 = .ok (.aload_n 0, 1) := by decide +kernel
theorem dX0_takeOldest_28 : decode cX0_takeOldest 28 = .ok (.getfield 34, 3) := by decide +kernel
theorem dX0_takeOldest_31 : decode cX0_takeOldest 31 = .ok (.iload_n 3, 1) := by decide +kernel
theorem dX0_takeOldest_32 : decode cX0_takeOldest 32 = .ok (.iaload, 1) := by decide +kernel
theorem dX0_takeOldest_33 : decode cX0_takeOldest 33 = .ok (.isub, 1) := by decide +kernel
theorem dX0_takeOldest_34 : decode cX0_takeOldest 34 = .ok (.invokevirtual 134, 3) := by decide +kernel
theorem dX0_takeOldest_37 : decode cX0_takeOldest 37 = .ok (.aload_n 1, 1) := by decide +kernel
theorem dX0_takeOldest_38 : decode cX0_takeOldest 38 = .ok (.bipush (-6), 2) := by decide +kernel
theorem dX0_takeOldest_40 : decode cX0_takeOldest 40 = .ok (.putfield 82, 3) := by decide +kernel
theorem dX0_takeOldest_43 : decode cX0_takeOldest 43 = .ok (.iload_n 3, 1) := by decide +kernel
theorem dX0_takeOldest_44 : decode cX0_takeOldest 44 = .ok (.iconst 1, 1) := by decide +kernel
theorem dX0_takeOldest_45 : decode cX0_takeOldest 45 = .ok (.iadd, 1) := by decide +kernel
theorem dX0_takeOldest_46 : decode cX0_takeOldest 46 = .ok (.istore 4, 2) := by decide +kernel
theorem dX0_takeOldest_48 : decode cX0_takeOldest 48 = .ok (.iload 4, 2) := by decide +kernel
theorem dX0_takeOldest_50 : decode cX0_takeOldest 50 = .ok (.aload_n 0, 1) := by decide +kernel
theorem dX0_takeOldest_51 : decode cX0_takeOldest 51 = .ok (.getfield 28, 3) := by decide +kernel
theorem dX0_takeOldest_54 : decode cX0_takeOldest 54 = .ok (.if_icmp .ge 47, 3) := by decide +kernel
theorem dX0_takeOldest_57 : decode cX0_takeOldest 57 = .ok (.aload_n 1, 1) := by decide +kernel
theorem dX0_takeOldest_58 : decode cX0_takeOldest 58 = .ok (.getfield 82, 3) := by decide +kernel
theorem dX0_takeOldest_61 : decode cX0_takeOldest 61 = .ok (.bipush (-6), 2) := by decide +kernel
theorem dX0_takeOldest_63 : decode cX0_takeOldest 63 = .ok (.if_icmp .ne 38, 3) := by decide +kernel
theorem dX0_takeOldest_66 : decode cX0_takeOldest 66 = .ok (.aload_n 0, 1) := by decide +kernel
theorem dX0_takeOldest_67 : decode cX0_takeOldest 67 = .ok (.getfield 37, 3) := by decide +kernel
theorem dX0_takeOldest_70 : decode cX0_takeOldest 70 = .ok (.iload 4, 2) := by decide +kernel
theorem dX0_takeOldest_72 : decode cX0_takeOldest 72 = .ok (.iaload, 1) := by decide +kernel
theorem dX0_takeOldest_73 : decode cX0_takeOldest 73 = .ok (.ifCond .ne 22, 3) := by decide +kernel
theorem dX0_takeOldest_76 : decode cX0_takeOldest 76 = .ok (.aload_n 0, 1) := by decide +kernel
theorem dX0_takeOldest_77 : decode cX0_takeOldest 77 = .ok (.getfield 31, 3) := by decide +kernel
theorem dX0_takeOldest_80 : decode cX0_takeOldest 80 = .ok (.iload 4, 2) := by decide +kernel
theorem dX0_takeOldest_82 : decode cX0_takeOldest 82 = .ok (.iaload, 1) := by decide +kernel
theorem dX0_takeOldest_83 : decode cX0_takeOldest 83 = .ok (.iconst 3, 1) := by decide +kernel
theorem dX0_takeOldest_84 : decode cX0_takeOldest 84 = .ok (.irem, 1) := by decide +kernel
theorem dX0_takeOldest_85 : decode cX0_takeOldest 85 = .ok (.iload_n 2, 1) := by decide +kernel
theorem dX0_takeOldest_86 : decode cX0_takeOldest 86 = .ok (.if_icmp .ne 9, 3) := by decide +kernel
theorem dX0_takeOldest_89 : decode cX0_takeOldest 89 = .ok (.aload_n 1, 1) := by decide +kernel
theorem dX0_takeOldest_90 : decode cX0_takeOldest 90 = .ok (.iload 4, 2) := by decide +kernel
theorem dX0_takeOldest_92 : decode cX0_takeOldest 92 = .ok (.putfield 82, 3) := by decide +kernel
theorem dX0_takeOldest_95 : decode cX0_takeOldest 95 = .ok (.iinc 4 1, 3) := by decide +kernel
theorem dX0_takeOldest_98 : decode cX0_takeOldest 98 = .ok (.goto (-50), 3) := by decide +kernel
theorem dX0_takeOldest_101 : decode cX0_takeOldest 101 = .ok (.return_, 1) := by decide +kernel
theorem dX0_whySilent_0 : decode cX0_whySilent 0 = .ok (.aload_n 1, 1) := by decide +kernel
theorem dX0_whySilent_1 : decode cX0_whySilent 1 = .ok (.invokevirtual 89, 3) := by decide +kernel
theorem dX0_whySilent_4 : decode cX0_whySilent 4 = .ok (.ifCond .eq 5, 3) := by decide +kernel
theorem dX0_whySilent_7 : decode cX0_whySilent 7 = .ok (.iconst 1, 1) := by decide +kernel
theorem dX0_whySilent_8 : decode cX0_whySilent 8 = .ok (.ireturn, 1) := by decide +kernel
theorem dX0_whySilent_9 : decode cX0_whySilent 9 = .ok (.aload_n 1, 1) := by decide +kernel
theorem dX0_whySilent_10 : decode cX0_whySilent 10 = .ok (.getfield 85, 3) := by decide +kernel
theorem dX0_whySilent_13 : decode cX0_whySilent 13 = .ok (.ifCond .eq 5, 3) := by decide +kernel
theorem dX0_whySilent_16 : decode cX0_whySilent 16 = .ok (.iconst 2, 1) := by decide +kernel
theorem dX0_whySilent_17 : decode cX0_whySilent 17 = .ok (.ireturn, 1) := by decide +kernel
theorem dX0_whySilent_18 : decode cX0_whySilent 18 = .ok (.aload_n 0, 1) := by decide +kernel
theorem dX0_whySilent_19 : decode cX0_whySilent 19 = .ok (.aload_n 1, 1) := by decide +kernel
theorem dX0_whySilent_20 : decode cX0_whySilent 20 = .ok (.getfield 82, 3) := by decide +kernel
theorem dX0_whySilent_23 : decode cX0_whySilent 23 = .ok (.invokevirtual 117, 3) := by decide +kernel
theorem dX0_whySilent_26 : decode cX0_whySilent 26 = .ok (.ifCond .ne 5, 3) := by decide +kernel
theorem dX0_whySilent_29 : decode cX0_whySilent 29 = .ok (.iconst 3, 1) := by decide +kernel
theorem dX0_whySilent_30 : decode cX0_whySilent 30 = .ok (.ireturn, 1) := by decide +kernel
theorem dX0_whySilent_31 : decode cX0_whySilent 31 = .ok (.aload_n 1, 1) := by decide +kernel
theorem dX0_whySilent_32 : decode cX0_whySilent 32 = .ok (.getfield 76, 3) := by decide +kernel
theorem dX0_whySilent_35 : decode cX0_whySilent 35 = .ok (.aload_n 1, 1) := by decide +kernel
theorem dX0_whySilent_36 : decode cX0_whySilent 36 = .ok (.getfield 73, 3) := by decide +kernel
theorem dX0_whySilent_39 : decode cX0_whySilent 39 = .ok (.if_icmp .lt 7, 3) := by decide +kernel
theorem dX0_whySilent_42 : decode cX0_whySilent 42 = .ok (.iconst 1, 1) := by decide +kernel
theorem dX0_whySilent_43 : decode cX0_whySilent 43 = .ok (.goto 4, 3) := by decide +kernel
theorem dX0_whySilent_46 : decode cX0_whySilent 46 = .ok (.iconst 0, 1) := by decide +kernel
theorem dX0_whySilent_47 : decode cX0_whySilent 47 = .ok (.istore_n 2, 1) := by decide +kernel
theorem dX0_whySilent_48 : decode cX0_whySilent 48 = .ok (.aload_n 0, 1) := by decide +kernel
theorem dX0_whySilent_49 : decode cX0_whySilent 49 = .ok (.getfield 24, 3) := by decide +kernel
theorem dX0_whySilent_52 : decode cX0_whySilent 52 = .ok (.aload_n 0, 1) := by decide +kernel
theorem dX0_whySilent_53 : decode cX0_whySilent 53 = .ok (.getfield 34, 3) := by decide +kernel
theorem dX0_whySilent_56 : decode cX0_whySilent 56 = .ok (.aload_n 1, 1) := by decide +kernel
theorem dX0_whySilent_57 : decode cX0_whySilent 57 = .ok (.getfield 82, 3) := by decide +kernel
theorem dX0_whySilent_60 : decode cX0_whySilent 60 = .ok (.iaload, 1) := by decide +kernel
theorem dX0_whySilent_61 : decode cX0_whySilent 61 = .ok (.isub, 1) := by decide +kernel
theorem dX0_whySilent_62 : decode cX0_whySilent 62 = .ok (.aload_n 1, 1) := by decide +kernel
theorem dX0_whySilent_63 : decode cX0_whySilent 63 = .ok (.getfield 70, 3) := by decide +kernel
theorem dX0_whySilent_66 : decode cX0_whySilent 66 = .ok (.if_icmp .lt 7, 3) := by decide +kernel
theorem dX0_whySilent_69 : decode cX0_whySilent 69 = .ok (.iconst 1, 1) := by decide +kernel
theorem dX0_whySilent_70 : decode cX0_whySilent 70 = .ok (.goto 4, 3) := by decide +kernel
theorem dX0_whySilent_73 : decode cX0_whySilent 73 = .ok (.iconst 0, 1) := by decide +kernel
theorem dX0_whySilent_74 : decode cX0_whySilent 74 = .ok (.istore_n 3, 1) := by decide +kernel
theorem dX0_whySilent_75 : decode cX0_whySilent 75 = .ok (.iload_n 2, 1) := by decide +kernel
theorem dX0_whySilent_76 : decode cX0_whySilent 76 = .ok (.ifCond .ne 7, 3) := by decide +kernel
theorem dX0_whySilent_79 : decode cX0_whySilent 79 = .ok (.iload_n 3, 1) := by decide +kernel
theorem dX0_whySilent_80 : decode cX0_whySilent 80 = .ok (.ifCond .eq 7, 3) := by decide +kernel
theorem dX0_whySilent_83 : decode cX0_whySilent 83 = .ok (.iconst 0, 1) := by decide +kernel
theorem dX0_whySilent_84 : decode cX0_whySilent 84 = .ok (.goto 4, 3) := by decide +kernel
theorem dX0_whySilent_87 : decode cX0_whySilent 87 = .ok (.iconst 4, 1) := by decide +kernel
theorem dX0_whySilent_88 : decode cX0_whySilent 88 = .ok (.ireturn, 1) := by decide +kernel
theorem dX0_enterRow_0 : decode cX0_enterRow 0 = .ok (.aload_n 1, 1) := by decide +kernel
theorem dX0_enterRow_1 : decode cX0_enterRow 1 = .ok (.aload_n 0, 1) := by decide +kernel
theorem dX0_enterRow_2 : decode cX0_enterRow 2 = .ok (.invokevirtual 131, 3) := by decide +kernel
theorem dX0_enterRow_5 : decode cX0_enterRow 5 = .ok (.putfield 96, 3) := by decide +kernel
theorem dX0_enterRow_8 : decode cX0_enterRow 8 = .ok (.aload_n 1, 1) := by decide +kernel
theorem dX0_enterRow_9 : decode cX0_enterRow 9 = .ok (.dup, 1) := by decide +kernel
theorem dX0_enterRow_10 : decode cX0_enterRow 10 = .ok (.getfield 138, 3) := by decide +kernel
theorem dX0_enterRow_13 : decode cX0_enterRow 13 = .ok (.iconst 1, 1) := by decide +kernel
theorem dX0_enterRow_14 : decode cX0_enterRow 14 = .ok (.iadd, 1) := by decide +kernel
theorem dX0_enterRow_15 : decode cX0_enterRow 15 = .ok (.putfield 138, 3) := by decide +kernel
theorem dX0_enterRow_18 : decode cX0_enterRow 18 = .ok (.aload_n 1, 1) := by decide +kernel
theorem dX0_enterRow_19 : decode cX0_enterRow 19 = .ok (.iconst 0, 1) := by decide +kernel
theorem dX0_enterRow_20 : decode cX0_enterRow 20 = .ok (.putfield 141, 3) := by decide +kernel
theorem dX0_enterRow_23 : decode cX0_enterRow 23 = .ok (.return_, 1) := by decide +kernel
theorem dX0_leaveRow_0 : decode cX0_leaveRow 0 = .ok (.aload_n 0, 1) := by decide +kernel
theorem dX0_leaveRow_1 : decode cX0_leaveRow 1 = .ok (.getfield 20, 3) := by decide +kernel
theorem dX0_leaveRow_4 : decode cX0_leaveRow 4 = .ok (.astore_n 2, 1) := by decide +kernel
theorem dX0_leaveRow_5 : decode cX0_leaveRow 5 = .ok (.aload_n 2, 1) := by decide +kernel
theorem dX0_leaveRow_6 : decode cX0_leaveRow 6 = .ok (.arraylength, 1) := by decide +kernel
theorem dX0_leaveRow_7 : decode cX0_leaveRow 7 = .ok (.istore_n 3, 1) := by decide +kernel
theorem dX0_leaveRow_8 : decode cX0_leaveRow 8 = .ok (.iconst 0, 1) := by decide +kernel
theorem dX0_leaveRow_9 : decode cX0_leaveRow 9 = .ok (.istore 4, 2) := by decide +kernel
theorem dX0_leaveRow_11 : decode cX0_leaveRow 11 = .ok (.iload 4, 2) := by decide +kernel
theorem dX0_leaveRow_13 : decode cX0_leaveRow 13 = .ok (.iload_n 3, 1) := by decide +kernel
theorem dX0_leaveRow_14 : decode cX0_leaveRow 14 = .ok (.if_icmp .ge 38, 3) := by decide +kernel
theorem dX0_leaveRow_17 : decode cX0_leaveRow 17 = .ok (.aload_n 2, 1) := by decide +kernel
theorem dX0_leaveRow_18 : decode cX0_leaveRow 18 = .ok (.iload 4, 2) := by decide +kernel
theorem dX0_leaveRow_20 : decode cX0_leaveRow 20 = .ok (.aaload, 1) := by decide +kernel
theorem dX0_leaveRow_21 : decode cX0_leaveRow 21 = .ok (.astore 5, 2) := by decide +kernel
theorem dX0_leaveRow_23 : decode cX0_leaveRow 23 = .ok (.aload 5, 2) := by decide +kernel
theorem dX0_leaveRow_25 : decode cX0_leaveRow 25 = .ok (.getfield 96, 3) := by decide +kernel
theorem dX0_leaveRow_28 : decode cX0_leaveRow 28 = .ok (.aload_n 1, 1) := by decide +kernel
theorem dX0_leaveRow_29 : decode cX0_leaveRow 29 = .ok (.getfield 96, 3) := by decide +kernel
theorem dX0_leaveRow_32 : decode cX0_leaveRow 32 = .ok (.if_icmp .le 14, 3) := by decide +kernel
theorem dX0_leaveRow_35 : decode cX0_leaveRow 35 = .ok (.aload 5, 2) := by decide +kernel
theorem dX0_leaveRow_37 : decode cX0_leaveRow 37 = .ok (.dup, 1) := by decide +kernel
theorem dX0_leaveRow_38 : decode cX0_leaveRow 38 = .ok (.getfield 96, 3) := by decide +kernel
theorem dX0_leaveRow_41 : decode cX0_leaveRow 41 = .ok (.iconst 1, 1) := by decide +kernel
theorem dX0_leaveRow_42 : decode cX0_leaveRow 42 = .ok (.isub, 1) := by decide +kernel
theorem dX0_leaveRow_43 : decode cX0_leaveRow 43 = .ok (.putfield 96, 3) := by decide +kernel
theorem dX0_leaveRow_46 : decode cX0_leaveRow 46 = .ok (.iinc 4 1, 3) := by decide +kernel
theorem dX0_leaveRow_49 : decode cX0_leaveRow 49 = .ok (.goto (-38), 3) := by decide +kernel
theorem dX0_leaveRow_52 : decode cX0_leaveRow 52 = .ok (.aload_n 1, 1) := by decide +kernel
theorem dX0_leaveRow_53 : decode cX0_leaveRow 53 = .ok (.iconst (-1), 1) := by decide +kernel
theorem dX0_leaveRow_54 : decode cX0_leaveRow 54 = .ok (.putfield 96, 3) := by decide +kernel
theorem dX0_leaveRow_57 : decode cX0_leaveRow 57 = .ok (.return_, 1) := by decide +kernel
theorem dX0_rowLength_0 : decode cX0_rowLength 0 = .ok (.iconst 0, 1) := by decide +kernel
theorem dX0_rowLength_1 : decode cX0_rowLength 1 = .ok (.istore_n 1, 1) := by decide +kernel
theorem dX0_rowLength_2 : decode cX0_rowLength 2 = .ok (.aload_n 0, 1) := by decide +kernel
theorem dX0_rowLength_3 : decode cX0_rowLength 3 = .ok (.getfield 20, 3) := by decide +kernel
theorem dX0_rowLength_6 : decode cX0_rowLength 6 = .ok (.astore_n 2, 1) := by decide +kernel
theorem dX0_rowLength_7 : decode cX0_rowLength 7 = .ok (.aload_n 2, 1) := by decide +kernel
theorem dX0_rowLength_8 : decode cX0_rowLength 8 = .ok (.arraylength, 1) := by decide +kernel
theorem dX0_rowLength_9 : decode cX0_rowLength 9 = .ok (.istore_n 3, 1) := by decide +kernel
theorem dX0_rowLength_10 : decode cX0_rowLength 10 = .ok (.iconst 0, 1) := by decide +kernel
theorem dX0_rowLength_11 : decode cX0_rowLength 11 = .ok (.istore 4, 2) := by decide +kernel
theorem dX0_rowLength_13 : decode cX0_rowLength 13 = .ok (.iload 4, 2) := by decide +kernel
theorem dX0_rowLength_15 : decode cX0_rowLength 15 = .ok (.iload_n 3, 1) := by decide +kernel
theorem dX0_rowLength_16 : decode cX0_rowLength 16 = .ok (.if_icmp .ge 31, 3) := by decide +kernel
theorem dX0_rowLength_19 : decode cX0_rowLength 19 = .ok (.aload_n 2, 1) := by decide +kernel
theorem dX0_rowLength_20 : decode cX0_rowLength 20 = .ok (.iload 4, 2) := by decide +kernel
theorem dX0_rowLength_22 : decode cX0_rowLength 22 = .ok (.aaload, 1) := by decide +kernel
theorem dX0_rowLength_23 : decode cX0_rowLength 23 = .ok (.astore 5, 2) := by decide +kernel
theorem dX0_rowLength_25 : decode cX0_rowLength 25 = .ok (.iload_n 1, 1) := by decide +kernel
theorem dX0_rowLength_26 : decode cX0_rowLength 26 = .ok (.aload 5, 2) := by decide +kernel
theorem dX0_rowLength_28 : decode cX0_rowLength 28 = .ok (.invokevirtual 89, 3) := by decide +kernel
theorem dX0_rowLength_31 : decode cX0_rowLength 31 = .ok (.ifCond .eq 7, 3) := by decide +kernel
theorem dX0_rowLength_34 : decode cX0_rowLength 34 = .ok (.iconst 1, 1) := by decide +kernel
theorem dX0_rowLength_35 : decode cX0_rowLength 35 = .ok (.goto 4, 3) := by decide +kernel
theorem dX0_rowLength_38 : decode cX0_rowLength 38 = .ok (.iconst 0, 1) := by decide +kernel
theorem dX0_rowLength_39 : decode cX0_rowLength 39 = .ok (.iadd, 1) := by decide +kernel
theorem dX0_rowLength_40 : decode cX0_rowLength 40 = .ok (.istore_n 1, 1) := by decide +kernel
theorem dX0_rowLength_41 : decode cX0_rowLength 41 = .ok (.iinc 4 1, 3) := by decide +kernel
theorem dX0_rowLength_44 : decode cX0_rowLength 44 = .ok (.goto (-31), 3) := by decide +kernel
theorem dX0_rowLength_47 : decode cX0_rowLength 47 = .ok (.iload_n 1, 1) := by decide +kernel
theorem dX0_rowLength_48 : decode cX0_rowLength 48 = .ok (.ireturn, 1) := by decide +kernel
theorem dX0_queueAt_0 : decode cX0_queueAt 0 = .ok (.iconst 0, 1) := by decide +kernel
theorem dX0_queueAt_1 : decode cX0_queueAt 1 = .ok (.istore_n 2, 1) := by decide +kernel
theorem dX0_queueAt_2 : decode cX0_queueAt 2 = .ok (.iload_n 2, 1) := by decide +kernel
theorem dX0_queueAt_3 : decode cX0_queueAt 3 = .ok (.iconst 3, 1) := by decide +kernel
theorem dX0_queueAt_4 : decode cX0_queueAt 4 = .ok (.if_icmp .ge 36, 3) := by decide +kernel
theorem dX0_queueAt_7 : decode cX0_queueAt 7 = .ok (.aload_n 0, 1) := by decide +kernel
theorem dX0_queueAt_8 : decode cX0_queueAt 8 = .ok (.getfield 20, 3) := by decide +kernel
theorem dX0_queueAt_11 : decode cX0_queueAt 11 = .ok (.iload_n 2, 1) := by decide +kernel
theorem dX0_queueAt_12 : decode cX0_queueAt 12 = .ok (.aaload, 1) := by decide +kernel
theorem dX0_queueAt_13 : decode cX0_queueAt 13 = .ok (.invokevirtual 89, 3) := by decide +kernel
theorem dX0_queueAt_16 : decode cX0_queueAt 16 = .ok (.ifCond .eq 18, 3) := by decide +kernel
theorem dX0_queueAt_19 : decode cX0_queueAt 19 = .ok (.aload_n 0, 1) := by decide +kernel
theorem dX0_queueAt_20 : decode cX0_queueAt 20 = .ok (.getfield 20, 3) := by decide +kernel
theorem dX0_queueAt_23 : decode cX0_queueAt 23 = .ok (.iload_n 2, 1) := by decide +kernel
theorem dX0_queueAt_24 : decode cX0_queueAt 24 = .ok (.aaload, 1) := by decide +kernel
theorem dX0_queueAt_25 : decode cX0_queueAt 25 = .ok (.getfield 96, 3) := by decide +kernel
theorem dX0_queueAt_28 : decode cX0_queueAt 28 = .ok (.iload_n 1, 1) := by decide +kernel
theorem dX0_queueAt_29 : decode cX0_queueAt 29 = .ok (.if_icmp .ne 5, 3) := by decide +kernel
theorem dX0_queueAt_32 : decode cX0_queueAt 32 = .ok (.iload_n 2, 1) := by decide +kernel
theorem dX0_queueAt_33 : decode cX0_queueAt 33 = .ok (.ireturn, 1) := by decide +kernel
theorem dX0_queueAt_34 : decode cX0_queueAt 34 = .ok (.iinc 2 1, 3) := by decide +kernel
theorem dX0_queueAt_37 : decode cX0_queueAt 37 = .ok (.goto (-35), 3) := by decide +kernel
theorem dX0_queueAt_40 : decode cX0_queueAt 40 = .ok (.iconst (-1), 1) := by decide +kernel
theorem dX0_queueAt_41 : decode cX0_queueAt 41 = .ok (.ireturn, 1) := by decide +kernel
theorem dX0_hasFrame_0 : decode cX0_hasFrame 0 = .ok (.iload_n 1, 1) := by decide +kernel
theorem dX0_hasFrame_1 : decode cX0_hasFrame 1 = .ok (.ifCond .lt 15, 3) := by decide +kernel
theorem dX0_hasFrame_4 : decode cX0_hasFrame 4 = .ok (.iload_n 1, 1) := by decide +kernel
theorem dX0_hasFrame_5 : decode cX0_hasFrame 5 = .ok (.aload_n 0, 1) := by decide +kernel
theorem dX0_hasFrame_6 : decode cX0_hasFrame 6 = .ok (.getfield 28, 3) := by decide +kernel
theorem dX0_hasFrame_9 : decode cX0_hasFrame 9 = .ok (.if_icmp .ge 7, 3) := by decide +kernel
theorem dX0_hasFrame_12 : decode cX0_hasFrame 12 = .ok (.iconst 1, 1) := by decide +kernel
theorem dX0_hasFrame_13 : decode cX0_hasFrame 13 = .ok (.goto 4, 3) := by decide +kernel
theorem dX0_hasFrame_16 : decode cX0_hasFrame 16 = .ok (.iconst 0, 1) := by decide +kernel
theorem dX0_hasFrame_17 : decode cX0_hasFrame 17 = .ok (.ireturn, 1) := by decide +kernel
theorem dX0_frameFact_0 : decode cX0_frameFact 0 = .ok (.iload_n 2, 1) := by decide +kernel
theorem dX0_frameFact_1 : decode cX0_frameFact 1 = .ok (.tableswitch 58 0 3 #[31, 38, 45, 52], 31) := by decide +kernel
theorem dX0_frameFact_32 : decode cX0_frameFact 32 = .ok (.aload_n 0, 1) := by decide +kernel
theorem dX0_frameFact_33 : decode cX0_frameFact 33 = .ok (.getfield 31, 3) := by decide +kernel
theorem dX0_frameFact_36 : decode cX0_frameFact 36 = .ok (.iload_n 1, 1) := by decide +kernel
theorem dX0_frameFact_37 : decode cX0_frameFact 37 = .ok (.iaload, 1) := by decide +kernel
theorem dX0_frameFact_38 : decode cX0_frameFact 38 = .ok (.ireturn, 1) := by decide +kernel
theorem dX0_frameFact_39 : decode cX0_frameFact 39 = .ok (.aload_n 0, 1) := by decide +kernel
theorem dX0_frameFact_40 : decode cX0_frameFact 40 = .ok (.getfield 34, 3) := by decide +kernel
theorem dX0_frameFact_43 : decode cX0_frameFact 43 = .ok (.iload_n 1, 1) := by decide +kernel
theorem dX0_frameFact_44 : decode cX0_frameFact 44 = .ok (.iaload, 1) := by decide +kernel
theorem dX0_frameFact_45 : decode cX0_frameFact 45 = .ok (.ireturn, 1) := by decide +kernel
theorem dX0_frameFact_46 : decode cX0_frameFact 46 = .ok (.aload_n 0, 1) := by decide +kernel
theorem dX0_frameFact_47 : decode cX0_frameFact 47 = .ok (.getfield 37, 3) := by decide +kernel
theorem dX0_frameFact_50 : decode cX0_frameFact 50 = .ok (.iload_n 1, 1) := by decide +kernel
theorem dX0_frameFact_51 : decode cX0_frameFact 51 = .ok (.iaload, 1) := by decide +kernel
theorem dX0_frameFact_52 : decode cX0_frameFact 52 = .ok (.ireturn, 1) := by decide +kernel
theorem dX0_frameFact_53 : decode cX0_frameFact 53 = .ok (.aload_n 0, 1) := by decide +kernel
theorem dX0_frameFact_54 : decode cX0_frameFact 54 = .ok (.iload_n 1, 1) := by decide +kernel
theorem dX0_frameFact_55 : decode cX0_frameFact 55 = .ok (.invokevirtual 144, 3) := by decide +kernel
theorem dX0_frameFact_58 : decode cX0_frameFact 58 = .ok (.ireturn, 1) := by decide +kernel
theorem dX0_frameFact_59 : decode cX0_frameFact 59 = .ok (.bipush (-2), 2) := by decide +kernel
theorem dX0_frameFact_61 : decode cX0_frameFact 61 = .ok (.ireturn, 1) := by decide +kernel
theorem dX0_waitOf_0 : decode cX0_waitOf 0 = .ok (.aload_n 0, 1) := by decide +kernel
theorem dX0_waitOf_1 : decode cX0_waitOf 1 = .ok (.getfield 37, 3) := by decide +kernel
theorem dX0_waitOf_4 : decode cX0_waitOf 4 = .ok (.iload_n 1, 1) := by decide +kernel
theorem dX0_waitOf_5 : decode cX0_waitOf 5 = .ok (.iaload, 1) := by decide +kernel
theorem dX0_waitOf_6 : decode cX0_waitOf 6 = .ok (.iconst 2, 1) := by decide +kernel
theorem dX0_waitOf_7 : decode cX0_waitOf 7 = .ok (.if_icmp .ne 6, 3) := by decide +kernel
theorem dX0_waitOf_10 : decode cX0_waitOf 10 = .ok (.bipush (-6), 2) := by decide +kernel
theorem dX0_waitOf_12 : decode cX0_waitOf 12 = .ok (.ireturn, 1) := by decide +kernel
theorem dX0_waitOf_13 : decode cX0_waitOf 13 = .ok (.aload_n 0, 1) := by decide +kernel
theorem dX0_waitOf_14 : decode cX0_waitOf 14 = .ok (.getfield 37, 3) := by decide +kernel
theorem dX0_waitOf_17 : decode cX0_waitOf 17 = .ok (.iload_n 1, 1) := by decide +kernel
theorem dX0_waitOf_18 : decode cX0_waitOf 18 = .ok (.iaload, 1) := by decide +kernel
theorem dX0_waitOf_19 : decode cX0_waitOf 19 = .ok (.iconst 1, 1) := by decide +kernel
theorem dX0_waitOf_20 : decode cX0_waitOf 20 = .ok (.if_icmp .ne 12, 3) := by decide +kernel
theorem dX0_waitOf_23 : decode cX0_waitOf 23 = .ok (.aload_n 0, 1) := by decide +kernel
theorem dX0_waitOf_24 : decode cX0_waitOf 24 = .ok (.getfield 40, 3) := by decide +kernel
theorem dX0_waitOf_27 : decode cX0_waitOf 27 = .ok (.iload_n 1, 1) := by decide +kernel
theorem dX0_waitOf_28 : decode cX0_waitOf 28 = .ok (.iaload, 1) := by decide +kernel
theorem dX0_waitOf_29 : decode cX0_waitOf 29 = .ok (.goto 7, 3) := by decide +kernel
theorem dX0_waitOf_32 : decode cX0_waitOf 32 = .ok (.aload_n 0, 1) := by decide +kernel
theorem dX0_waitOf_33 : decode cX0_waitOf 33 = .ok (.getfield 24, 3) := by decide +kernel
theorem dX0_waitOf_36 : decode cX0_waitOf 36 = .ok (.istore_n 2, 1) := by decide +kernel
theorem dX0_waitOf_37 : decode cX0_waitOf 37 = .ok (.iload_n 2, 1) := by decide +kernel
theorem dX0_waitOf_38 : decode cX0_waitOf 38 = .ok (.aload_n 0, 1) := by decide +kernel
theorem dX0_waitOf_39 : decode cX0_waitOf 39 = .ok (.getfield 34, 3) := by decide +kernel
theorem dX0_waitOf_42 : decode cX0_waitOf 42 = .ok (.iload_n 1, 1) := by decide +kernel
theorem dX0_waitOf_43 : decode cX0_waitOf 43 = .ok (.iaload, 1) := by decide +kernel
theorem dX0_waitOf_44 : decode cX0_waitOf 44 = .ok (.isub, 1) := by decide +kernel
theorem dX0_waitOf_45 : decode cX0_waitOf 45 = .ok (.ireturn, 1) := by decide +kernel
theorem dX0_total_0 : decode cX0_total 0 = .ok (.iconst 0, 1) := by decide +kernel
theorem dX0_total_1 : decode cX0_total 1 = .ok (.istore_n 2, 1) := by decide +kernel
theorem dX0_total_2 : decode cX0_total 2 = .ok (.aload_n 0, 1) := by decide +kernel
theorem dX0_total_3 : decode cX0_total 3 = .ok (.getfield 20, 3) := by decide +kernel
theorem dX0_total_6 : decode cX0_total 6 = .ok (.astore_n 3, 1) := by decide +kernel
theorem dX0_total_7 : decode cX0_total 7 = .ok (.aload_n 3, 1) := by decide +kernel
theorem dX0_total_8 : decode cX0_total 8 = .ok (.arraylength, 1) := by decide +kernel
theorem dX0_total_9 : decode cX0_total 9 = .ok (.istore 4, 2) := by decide +kernel
theorem dX0_total_11 : decode cX0_total 11 = .ok (.iconst 0, 1) := by decide +kernel
theorem dX0_total_12 : decode cX0_total 12 = .ok (.istore 5, 2) := by decide +kernel
theorem dX0_total_14 : decode cX0_total 14 = .ok (.iload 5, 2) := by decide +kernel
theorem dX0_total_16 : decode cX0_total 16 = .ok (.iload 4, 2) := by decide +kernel
theorem dX0_total_18 : decode cX0_total 18 = .ok (.if_icmp .ge 24, 3) := by decide +kernel
theorem dX0_total_21 : decode cX0_total 21 = .ok (.aload_n 3, 1) := by decide +kernel
theorem dX0_total_22 : decode cX0_total 22 = .ok (.iload 5, 2) := by decide +kernel
theorem dX0_total_24 : decode cX0_total 24 = .ok (.aaload, 1) := by decide +kernel
theorem dX0_total_25 : decode cX0_total 25 = .ok (.astore 6, 2) := by decide +kernel
theorem dX0_total_27 : decode cX0_total 27 = .ok (.iload_n 2, 1) := by decide +kernel
theorem dX0_total_28 : decode cX0_total 28 = .ok (.aload 6, 2) := by decide +kernel
theorem dX0_total_30 : decode cX0_total 30 = .ok (.iload_n 1, 1) := by decide +kernel
theorem dX0_total_31 : decode cX0_total 31 = .ok (.invokevirtual 147, 3) := by decide +kernel
theorem dX0_total_34 : decode cX0_total 34 = .ok (.iadd, 1) := by decide +kernel
theorem dX0_total_35 : decode cX0_total 35 = .ok (.istore_n 2, 1) := by decide +kernel
theorem dX0_total_36 : decode cX0_total 36 = .ok (.iinc 5 1, 3) := by decide +kernel
theorem dX0_total_39 : decode cX0_total 39 = .ok (.goto (-25), 3) := by decide +kernel
theorem dX0_total_42 : decode cX0_total 42 = .ok (.iload_n 2, 1) := by decide +kernel
theorem dX0_total_43 : decode cX0_total 43 = .ok (.ireturn, 1) := by decide +kernel
theorem dX0_maskedSet_0 : decode cX0_maskedSet 0 = .ok (.iconst 0, 1) := by decide +kernel
theorem dX0_maskedSet_1 : decode cX0_maskedSet 1 = .ok (.istore_n 1, 1) := by decide +kernel
theorem dX0_maskedSet_2 : decode cX0_maskedSet 2 = .ok (.iconst 0, 1) := by decide +kernel
theorem dX0_maskedSet_3 : decode cX0_maskedSet 3 = .ok (.istore_n 2, 1) := by decide +kernel
theorem dX0_maskedSet_4 : decode cX0_maskedSet 4 = .ok (.iload_n 2, 1) := by decide +kernel
theorem dX0_maskedSet_5 : decode cX0_maskedSet 5 = .ok (.iconst 3, 1) := by decide +kernel
theorem dX0_maskedSet_6 : decode cX0_maskedSet 6 = .ok (.if_icmp .ge 31, 3) := by decide +kernel
theorem dX0_maskedSet_9 : decode cX0_maskedSet 9 = .ok (.iload_n 1, 1) := by decide +kernel
theorem dX0_maskedSet_10 : decode cX0_maskedSet 10 = .ok (.aload_n 0, 1) := by decide +kernel
theorem dX0_maskedSet_11 : decode cX0_maskedSet 11 = .ok (.getfield 20, 3) := by decide +kernel
theorem dX0_maskedSet_14 : decode cX0_maskedSet 14 = .ok (.iload_n 2, 1) := by decide +kernel
theorem dX0_maskedSet_15 : decode cX0_maskedSet 15 = .ok (.aaload, 1) := by decide +kernel
theorem dX0_maskedSet_16 : decode cX0_maskedSet 16 = .ok (.getfield 85, 3) := by decide +kernel
theorem dX0_maskedSet_19 : decode cX0_maskedSet 19 = .ok (.ifCond .eq 9, 3) := by decide +kernel
theorem dX0_maskedSet_22 : decode cX0_maskedSet 22 = .ok (.iconst 1, 1) := by decide +kernel
theorem dX0_maskedSet_23 : decode cX0_maskedSet 23 = .ok (.iload_n 2, 1) := by decide +kernel
theorem dX0_maskedSet_24 : decode cX0_maskedSet 24 = .ok (.ishl, 1) := by decide +kernel
theorem dX0_maskedSet_25 : decode cX0_maskedSet 25 = .ok (.goto 4, 3) := by decide +kernel
theorem dX0_maskedSet_28 : decode cX0_maskedSet 28 = .ok (.iconst 0, 1) := by decide +kernel
theorem dX0_maskedSet_29 : decode cX0_maskedSet 29 = .ok (.ior, 1) := by decide +kernel
theorem dX0_maskedSet_30 : decode cX0_maskedSet 30 = .ok (.istore_n 1, 1) := by decide +kernel
theorem dX0_maskedSet_31 : decode cX0_maskedSet 31 = .ok (.iinc 2 1, 3) := by decide +kernel
theorem dX0_maskedSet_34 : decode cX0_maskedSet 34 = .ok (.goto (-30), 3) := by decide +kernel
theorem dX0_maskedSet_37 : decode cX0_maskedSet 37 = .ok (.iload_n 1, 1) := by decide +kernel
theorem dX0_maskedSet_38 : decode cX0_maskedSet 38 = .ok (.ireturn, 1) := by decide +kernel
theorem dX1_init_0 : decode cX1_init 0 = .ok (.aload_n 0, 1) := by decide +kernel
theorem dX1_init_1 : decode cX1_init 1 = .ok (.invokespecial 5, 3) := by decide +kernel
theorem dX1_init_4 : decode cX1_init 4 = .ok (.aload_n 0, 1) := by decide +kernel
theorem dX1_init_5 : decode cX1_init 5 = .ok (.bipush 7, 2) := by decide +kernel
theorem dX1_init_7 : decode cX1_init 7 = .ok (.anewarray 11, 3) := by decide +kernel
theorem dX1_init_10 : decode cX1_init 10 = .ok (.putfield 13, 3) := by decide +kernel
theorem dX1_init_13 : decode cX1_init 13 = .ok (.aload_n 0, 1) := by decide +kernel
theorem dX1_init_14 : decode cX1_init 14 = .ok (.iconst 0, 1) := by decide +kernel
theorem dX1_init_15 : decode cX1_init 15 = .ok (.putfield 17, 3) := by decide +kernel
theorem dX1_init_18 : decode cX1_init 18 = .ok (.aload_n 0, 1) := by decide +kernel
theorem dX1_init_19 : decode cX1_init 19 = .ok (.iconst 0, 1) := by decide +kernel
theorem dX1_init_20 : decode cX1_init 20 = .ok (.putfield 21, 3) := by decide +kernel
theorem dX1_init_23 : decode cX1_init 23 = .ok (.iconst 0, 1) := by decide +kernel
theorem dX1_init_24 : decode cX1_init 24 = .ok (.istore_n 1, 1) := by decide +kernel
theorem dX1_init_25 : decode cX1_init 25 = .ok (.iload_n 1, 1) := by decide +kernel
theorem dX1_init_26 : decode cX1_init 26 = .ok (.bipush 7, 2) := by decide +kernel
theorem dX1_init_28 : decode cX1_init 28 = .ok (.if_icmp .ge 22, 3) := by decide +kernel
theorem dX1_init_31 : decode cX1_init 31 = .ok (.aload_n 0, 1) := by decide +kernel
theorem dX1_init_32 : decode cX1_init 32 = .ok (.getfield 13, 3) := by decide +kernel
theorem dX1_init_35 : decode cX1_init 35 = .ok (.iload_n 1, 1) := by decide +kernel
theorem dX1_init_36 : decode cX1_init 36 = .ok (.new 11, 3) := by decide +kernel
theorem dX1_init_39 : decode cX1_init 39 = .ok (.dup, 1) := by decide +kernel
theorem dX1_init_40 : decode cX1_init 40 = .ok (.invokespecial 24, 3) := by decide +kernel
theorem dX1_init_43 : decode cX1_init 43 = .ok (.aastore, 1) := by decide +kernel
theorem dX1_init_44 : decode cX1_init 44 = .ok (.iinc 1 1, 3) := by decide +kernel
theorem dX1_init_47 : decode cX1_init 47 = .ok (.goto (-22), 3) := by decide +kernel
theorem dX1_init_50 : decode cX1_init 50 = .ok (.return_, 1) := by decide +kernel
theorem dX1_prepare_0 : decode cX1_prepare 0 = .ok (.aload_n 0, 1) := by decide +kernel
theorem dX1_prepare_1 : decode cX1_prepare 1 = .ok (.getfield 13, 3) := by decide +kernel
theorem dX1_prepare_4 : decode cX1_prepare 4 = .ok (.aload_n 0, 1) := by decide +kernel
theorem dX1_prepare_5 : decode cX1_prepare 5 = .ok (.getfield 17, 3) := by decide +kernel
theorem dX1_prepare_8 : decode cX1_prepare 8 = .ok (.aaload, 1) := by decide +kernel
theorem dX1_prepare_9 : decode cX1_prepare 9 = .ok (.aload_n 1, 1) := by decide +kernel
theorem dX1_prepare_10 : decode cX1_prepare 10 = .ok (.invokevirtual 25, 3) := by decide +kernel
theorem dX1_prepare_13 : decode cX1_prepare 13 = .ok (.return_, 1) := by decide +kernel
theorem dX1_keepIfDone_0 : decode cX1_keepIfDone 0 = .ok (.iload_n 1, 1) := by decide +kernel
theorem dX1_keepIfDone_1 : decode cX1_keepIfDone 1 = .ok (.ifCond .lt 31, 3) := by decide +kernel
theorem dX1_keepIfDone_4 : decode cX1_keepIfDone 4 = .ok (.aload_n 0, 1) := by decide +kernel
theorem dX1_keepIfDone_5 : decode cX1_keepIfDone 5 = .ok (.aload_n 0, 1) := by decide +kernel
theorem dX1_keepIfDone_6 : decode cX1_keepIfDone 6 = .ok (.getfield 17, 3) := by decide +kernel
theorem dX1_keepIfDone_9 : decode cX1_keepIfDone 9 = .ok (.iconst 1, 1) := by decide +kernel
theorem dX1_keepIfDone_10 : decode cX1_keepIfDone 10 = .ok (.iadd, 1) := by decide +kernel
theorem dX1_keepIfDone_11 : decode cX1_keepIfDone 11 = .ok (.bipush 7, 2) := by decide +kernel
theorem dX1_keepIfDone_13 : decode cX1_keepIfDone 13 = .ok (.irem, 1) := by decide +kernel
theorem dX1_keepIfDone_14 : decode cX1_keepIfDone 14 = .ok (.putfield 17, 3) := by decide +kernel
theorem dX1_keepIfDone_17 : decode cX1_keepIfDone 17 = .ok (.aload_n 0, 1) := by decide +kernel
theorem dX1_keepIfDone_18 : decode cX1_keepIfDone 18 = .ok (.aload_n 0, 1) := by decide +kernel
theorem dX1_keepIfDone_19 : decode cX1_keepIfDone 19 = .ok (.getfield 21, 3) := by decide +kernel
theorem dX1_keepIfDone_22 : decode cX1_keepIfDone 22 = .ok (.iconst 1, 1) := by decide +kernel
theorem dX1_keepIfDone_23 : decode cX1_keepIfDone 23 = .ok (.iadd, 1) := by decide +kernel
theorem dX1_keepIfDone_24 : decode cX1_keepIfDone 24 = .ok (.bipush 6, 2) := by decide +kernel
theorem dX1_keepIfDone_26 : decode cX1_keepIfDone 26 = .ok (.invokestatic 29, 3) := by decide +kernel
theorem dX1_keepIfDone_29 : decode cX1_keepIfDone 29 = .ok (.putfield 21, 3) := by decide +kernel
theorem dX1_keepIfDone_32 : decode cX1_keepIfDone 32 = .ok (.iload_n 1, 1) := by decide +kernel
theorem dX1_keepIfDone_33 : decode cX1_keepIfDone 33 = .ok (.ireturn, 1) := by decide +kernel
theorem dX1_goBack_0 : decode cX1_goBack 0 = .ok (.aload_n 0, 1) := by decide +kernel
theorem dX1_goBack_1 : decode cX1_goBack 1 = .ok (.getfield 21, 3) := by decide +kernel
theorem dX1_goBack_4 : decode cX1_goBack 4 = .ok (.ifCond .ne 6, 3) := by decide +kernel
theorem dX1_goBack_7 : decode cX1_goBack 7 = .ok (.bipush (-5), 2) := by decide +kernel
theorem dX1_goBack_9 : decode cX1_goBack 9 = .ok (.ireturn, 1) := by decide +kernel
theorem dX1_goBack_10 : decode cX1_goBack 10 = .ok (.aload_n 0, 1) := by decide +kernel
theorem dX1_goBack_11 : decode cX1_goBack 11 = .ok (.aload_n 0, 1) := by decide +kernel
theorem dX1_goBack_12 : decode cX1_goBack 12 = .ok (.getfield 17, 3) := by decide +kernel
theorem dX1_goBack_15 : decode cX1_goBack 15 = .ok (.bipush 7, 2) := by decide +kernel
theorem dX1_goBack_17 : decode cX1_goBack 17 = .ok (.iadd, 1) := by decide +kernel
theorem dX1_goBack_18 : decode cX1_goBack 18 = .ok (.iconst 1, 1) := by decide +kernel
theorem dX1_goBack_19 : decode cX1_goBack 19 = .ok (.isub, 1) := by decide +kernel
theorem dX1_goBack_20 : decode cX1_goBack 20 = .ok (.bipush 7, 2) := by decide +kernel
theorem dX1_goBack_22 : decode cX1_goBack 22 = .ok (.irem, 1) := by decide +kernel
theorem dX1_goBack_23 : decode cX1_goBack 23 = .ok (.putfield 17, 3) := by decide +kernel
theorem dX1_goBack_26 : decode cX1_goBack 26 = .ok (.aload_n 0, 1) := by decide +kernel
theorem dX1_goBack_27 : decode cX1_goBack 27 = .ok (.dup, 1) := by decide +kernel
theorem dX1_goBack_28 : decode cX1_goBack 28 = .ok (.getfield 21, 3) := by decide +kernel
theorem dX1_goBack_31 : decode cX1_goBack 31 = .ok (.iconst 1, 1) := by decide +kernel
theorem dX1_goBack_32 : decode cX1_goBack 32 = .ok (.isub, 1) := by decide +kernel
theorem dX1_goBack_33 : decode cX1_goBack 33 = .ok (.putfield 21, 3) := by decide +kernel
theorem dX1_goBack_36 : decode cX1_goBack 36 = .ok (.aload_n 1, 1) := by decide +kernel
theorem dX1_goBack_37 : decode cX1_goBack 37 = .ok (.aload_n 0, 1) := by decide +kernel
theorem dX1_goBack_38 : decode cX1_goBack 38 = .ok (.getfield 13, 3) := by decide +kernel
theorem dX1_goBack_41 : decode cX1_goBack 41 = .ok (.aload_n 0, 1) := by decide +kernel
theorem dX1_goBack_42 : decode cX1_goBack 42 = .ok (.getfield 17, 3) := by decide +kernel
theorem dX1_goBack_45 : decode cX1_goBack 45 = .ok (.aaload, 1) := by decide +kernel
theorem dX1_goBack_46 : decode cX1_goBack 46 = .ok (.invokevirtual 25, 3) := by decide +kernel
theorem dX1_goBack_49 : decode cX1_goBack 49 = .ok (.aload_n 0, 1) := by decide +kernel
theorem dX1_goBack_50 : decode cX1_goBack 50 = .ok (.getfield 21, 3) := by decide +kernel
theorem dX1_goBack_53 : decode cX1_goBack 53 = .ok (.ireturn, 1) := by decide +kernel
theorem dX2_init_0 : decode cX2_init 0 = .ok (.aload_n 0, 1) := by decide +kernel
theorem dX2_init_1 : decode cX2_init 1 = .ok (.invokespecial 3, 3) := by decide +kernel
theorem dX2_init_4 : decode cX2_init 4 = .ok (.aload_n 0, 1) := by decide +kernel
theorem dX2_init_5 : decode cX2_init 5 = .ok (.bipush 80, 2) := by decide +kernel
theorem dX2_init_7 : decode cX2_init 7 = .ok (.newarray .char, 2) := by decide +kernel
theorem dX2_init_9 : decode cX2_init 9 = .ok (.putfield 11, 3) := by decide +kernel
theorem dX2_init_12 : decode cX2_init 12 = .ok (.aload_n 0, 1) := by decide +kernel
theorem dX2_init_13 : decode cX2_init 13 = .ok (.iconst 0, 1) := by decide +kernel
theorem dX2_init_14 : decode cX2_init 14 = .ok (.putfield 15, 3) := by decide +kernel
theorem dX2_init_17 : decode cX2_init 17 = .ok (.aload_n 0, 1) := by decide +kernel
theorem dX2_init_18 : decode cX2_init 18 = .ok (.iconst 0, 1) := by decide +kernel
theorem dX2_init_19 : decode cX2_init 19 = .ok (.putfield 19, 3) := by decide +kernel
theorem dX2_init_22 : decode cX2_init 22 = .ok (.aload_n 0, 1) := by decide +kernel
theorem dX2_init_23 : decode cX2_init 23 = .ok (.iconst 0, 1) := by decide +kernel
theorem dX2_init_24 : decode cX2_init 24 = .ok (.putfield 22, 3) := by decide +kernel
theorem dX2_init_27 : decode cX2_init 27 = .ok (.aload_n 0, 1) := by decide +kernel
theorem dX2_init_28 : decode cX2_init 28 = .ok (.bipush 109, 2) := by decide +kernel
theorem dX2_init_30 : decode cX2_init 30 = .ok (.putfield 26, 3) := by decide +kernel
theorem dX2_init_33 : decode cX2_init 33 = .ok (.aload_n 0, 1) := by decide +kernel
theorem dX2_init_34 : decode cX2_init 34 = .ok (.iconst 0, 1) := by decide +kernel
theorem dX2_init_35 : decode cX2_init 35 = .ok (.putfield 30, 3) := by decide +kernel
theorem dX2_init_38 : decode cX2_init 38 = .ok (.aload_n 0, 1) := by decide +kernel
theorem dX2_init_39 : decode cX2_init 39 = .ok (.iconst 0, 1) := by decide +kernel
theorem dX2_init_40 : decode cX2_init 40 = .ok (.putfield 33, 3) := by decide +kernel
theorem dX2_init_43 : decode cX2_init 43 = .ok (.aload_n 0, 1) := by decide +kernel
theorem dX2_init_44 : decode cX2_init 44 = .ok (.iconst 0, 1) := by decide +kernel
theorem dX2_init_45 : decode cX2_init 45 = .ok (.putfield 36, 3) := by decide +kernel
theorem dX2_init_48 : decode cX2_init 48 = .ok (.aload_n 0, 1) := by decide +kernel
theorem dX2_init_49 : decode cX2_init 49 = .ok (.iconst 0, 1) := by decide +kernel
theorem dX2_init_50 : decode cX2_init 50 = .ok (.putfield 39, 3) := by decide +kernel
theorem dX2_init_53 : decode cX2_init 53 = .ok (.return_, 1) := by decide +kernel
theorem dX2_append_0 : decode cX2_append 0 = .ok (.lload_n 1, 1) := by decide +kernel
theorem dX2_append_1 : decode cX2_append 1 = .ok (.invokestatic 42, 3) := by decide +kernel
theorem dX2_append_4 : decode cX2_append 4 = .ok (.istore_n 3, 1) := by decide +kernel
theorem dX2_append_5 : decode cX2_append 5 = .ok (.iload_n 3, 1) := by decide +kernel
theorem dX2_append_6 : decode cX2_append 6 = .ok (.ifCond .ne 6, 3) := by decide +kernel
theorem dX2_append_9 : decode cX2_append 9 = .ok (.bipush (-2), 2) := by decide +kernel
theorem dX2_append_11 : decode cX2_append 11 = .ok (.ireturn, 1) := by decide +kernel
theorem dX2_append_12 : decode cX2_append 12 = .ok (.aload_n 0, 1) := by decide +kernel
theorem dX2_append_13 : decode cX2_append 13 = .ok (.getfield 15, 3) := by decide +kernel
theorem dX2_append_16 : decode cX2_append 16 = .ok (.iload_n 3, 1) := by decide +kernel
theorem dX2_append_17 : decode cX2_append 17 = .ok (.iadd, 1) := by decide +kernel
theorem dX2_append_18 : decode cX2_append 18 = .ok (.bipush 80, 2) := by decide +kernel
theorem dX2_append_20 : decode cX2_append 20 = .ok (.if_icmp .le 6, 3) := by decide +kernel
theorem dX2_append_23 : decode cX2_append 23 = .ok (.bipush (-4), 2) := by decide +kernel
theorem dX2_append_25 : decode cX2_append 25 = .ok (.ireturn, 1) := by decide +kernel
theorem dX2_append_26 : decode cX2_append 26 = .ok (.iconst 0, 1) := by decide +kernel
theorem dX2_append_27 : decode cX2_append 27 = .ok (.istore 4, 2) := by decide +kernel
theorem dX2_append_29 : decode cX2_append 29 = .ok (.iload 4, 2) := by decide +kernel
theorem dX2_append_31 : decode cX2_append 31 = .ok (.iload_n 3, 1) := by decide +kernel
theorem dX2_append_32 : decode cX2_append 32 = .ok (.if_icmp .ge 38, 3) := by decide +kernel
theorem dX2_append_35 : decode cX2_append 35 = .ok (.aload_n 0, 1) := by decide +kernel
theorem dX2_append_36 : decode cX2_append 36 = .ok (.getfield 11, 3) := by decide +kernel
theorem dX2_append_39 : decode cX2_append 39 = .ok (.aload_n 0, 1) := by decide +kernel
theorem dX2_append_40 : decode cX2_append 40 = .ok (.getfield 15, 3) := by decide +kernel
theorem dX2_append_43 : decode cX2_append 43 = .ok (.iload 4, 2) := by decide +kernel
theorem dX2_append_45 : decode cX2_append 45 = .ok (.iadd, 1) := by decide +kernel
theorem dX2_append_46 : decode cX2_append 46 = .ok (.lload_n 1, 1) := by decide +kernel
theorem dX2_append_47 : decode cX2_append 47 = .ok (.bipush 8, 2) := by decide +kernel
theorem dX2_append_49 : decode cX2_append 49 = .ok (.iload_n 3, 1) := by decide +kernel
theorem dX2_append_50 : decode cX2_append 50 = .ok (.iconst 1, 1) := by decide +kernel
theorem dX2_append_51 : decode cX2_append 51 = .ok (.isub, 1) := by decide +kernel
theorem dX2_append_52 : decode cX2_append 52 = .ok (.iload 4, 2) := by decide +kernel
theorem dX2_append_54 : decode cX2_append 54 = .ok (.isub, 1) := by decide +kernel
theorem dX2_append_55 : decode cX2_append 55 = .ok (.imul, 1) := by decide +kernel
theorem dX2_append_56 : decode cX2_append 56 = .ok (.lushr, 1) := by decide +kernel
theorem dX2_append_57 : decode cX2_append 57 = .ok (.ldc2_w 46, 3) := by decide +kernel
theorem dX2_append_60 : decode cX2_append 60 = .ok (.land, 1) := by decide +kernel
theorem dX2_append_61 : decode cX2_append 61 = .ok (.l2i, 1) := by decide +kernel
theorem dX2_append_62 : decode cX2_append 62 = .ok (.i2c, 1) := by decide +kernel
theorem dX2_append_63 : decode cX2_append 63 = .ok (.castore, 1) := by decide +kernel
theorem dX2_append_64 : decode cX2_append 64 = .ok (.iinc 4 1, 3) := by decide +kernel
theorem dX2_append_67 : decode cX2_append 67 = .ok (.goto (-38), 3) := by decide +kernel
theorem dX2_append_70 : decode cX2_append 70 = .ok (.aload_n 0, 1) := by decide +kernel
theorem dX2_append_71 : decode cX2_append 71 = .ok (.dup, 1) := by decide +kernel
theorem dX2_append_72 : decode cX2_append 72 = .ok (.getfield 15, 3) := by decide +kernel
theorem dX2_append_75 : decode cX2_append 75 = .ok (.iload_n 3, 1) := by decide +kernel
theorem dX2_append_76 : decode cX2_append 76 = .ok (.iadd, 1) := by decide +kernel
theorem dX2_append_77 : decode cX2_append 77 = .ok (.putfield 15, 3) := by decide +kernel
theorem dX2_append_80 : decode cX2_append 80 = .ok (.aload_n 0, 1) := by decide +kernel
theorem dX2_append_81 : decode cX2_append 81 = .ok (.getfield 15, 3) := by decide +kernel
theorem dX2_append_84 : decode cX2_append 84 = .ok (.ireturn, 1) := by decide +kernel
theorem dX2_sizeOf_0 : decode cX2_sizeOf 0 = .ok (.lload_n 0, 1) := by decide +kernel
theorem dX2_sizeOf_1 : decode cX2_sizeOf 1 = .ok (.lstore_n 2, 1) := by decide +kernel
theorem dX2_sizeOf_2 : decode cX2_sizeOf 2 = .ok (.iconst 0, 1) := by decide +kernel
theorem dX2_sizeOf_3 : decode cX2_sizeOf 3 = .ok (.istore 4, 2) := by decide +kernel
theorem dX2_sizeOf_5 : decode cX2_sizeOf 5 = .ok (.iload 4, 2) := by decide +kernel
theorem dX2_sizeOf_7 : decode cX2_sizeOf 7 = .ok (.bipush 8, 2) := by decide +kernel
theorem dX2_sizeOf_9 : decode cX2_sizeOf 9 = .ok (.if_icmp .ge 47, 3) := by decide +kernel
theorem dX2_sizeOf_12 : decode cX2_sizeOf 12 = .ok (.lload_n 2, 1) := by decide +kernel
theorem dX2_sizeOf_13 : decode cX2_sizeOf 13 = .ok (.lconst 0, 1) := by decide +kernel
theorem dX2_sizeOf_14 : decode cX2_sizeOf 14 = .ok (.lcmp, 1) := by decide +kernel
theorem dX2_sizeOf_15 : decode cX2_sizeOf 15 = .ok (.ifCond .eq 41, 3) := by decide +kernel
theorem dX2_sizeOf_18 : decode cX2_sizeOf 18 = .ok (.lload_n 2, 1) := by decide +kernel
theorem dX2_sizeOf_19 : decode cX2_sizeOf 19 = .ok (.ldc2_w 46, 3) := by decide +kernel
theorem dX2_sizeOf_22 : decode cX2_sizeOf 22 = .ok (.land, 1) := by decide +kernel
theorem dX2_sizeOf_23 : decode cX2_sizeOf 23 = .ok (.lstore 5, 2) := by decide +kernel
theorem dX2_sizeOf_25 : decode cX2_sizeOf 25 = .ok (.lload 5, 2) := by decide +kernel
theorem dX2_sizeOf_27 : decode cX2_sizeOf 27 = .ok (.ldc2_w 48, 3) := by decide +kernel
theorem dX2_sizeOf_30 : decode cX2_sizeOf 30 = .ok (.lcmp, 1) := by decide +kernel
theorem dX2_sizeOf_31 : decode cX2_sizeOf 31 = .ok (.ifCond .lt 12, 3) := by decide +kernel
theorem dX2_sizeOf_34 : decode cX2_sizeOf 34 = .ok (.lload 5, 2) := by decide +kernel
theorem dX2_sizeOf_36 : decode cX2_sizeOf 36 = .ok (.ldc2_w 50, 3) := by decide +kernel
theorem dX2_sizeOf_39 : decode cX2_sizeOf 39 = .ok (.lcmp, 1) := by decide +kernel
theorem dX2_sizeOf_40 : decode cX2_sizeOf 40 = .ok (.ifCond .le 5, 3) := by decide +kernel
theorem dX2_sizeOf_43 : decode cX2_sizeOf 43 = .ok (.iconst 0, 1) := by decide +kernel
theorem dX2_sizeOf_44 : decode cX2_sizeOf 44 = .ok (.ireturn, 1) := by decide +kernel
theorem dX2_sizeOf_45 : decode cX2_sizeOf 45 = .ok (.lload_n 2, 1) := by decide +kernel
theorem dX2_sizeOf_46 : decode cX2_sizeOf 46 = .ok (.bipush 8, 2) := by decide +kernel
theorem dX2_sizeOf_48 : decode cX2_sizeOf 48 = .ok (.lushr, 1) := by decide +kernel
theorem dX2_sizeOf_49 : decode cX2_sizeOf 49 = .ok (.lstore_n 2, 1) := by decide +kernel
theorem dX2_sizeOf_50 : decode cX2_sizeOf 50 = .ok (.iinc 4 1, 3) := by decide +kernel
theorem dX2_sizeOf_53 : decode cX2_sizeOf 53 = .ok (.goto (-48), 3) := by decide +kernel
theorem dX2_sizeOf_56 : decode cX2_sizeOf 56 = .ok (.iload 4, 2) := by decide +kernel
theorem dX2_sizeOf_58 : decode cX2_sizeOf 58 = .ok (.ireturn, 1) := by decide +kernel
theorem dX2_clear_0 : decode cX2_clear 0 = .ok (.aload_n 0, 1) := by decide +kernel
theorem dX2_clear_1 : decode cX2_clear 1 = .ok (.getfield 15, 3) := by decide +kernel
theorem dX2_clear_4 : decode cX2_clear 4 = .ok (.istore_n 1, 1) := by decide +kernel
theorem dX2_clear_5 : decode cX2_clear 5 = .ok (.aload_n 0, 1) := by decide +kernel
theorem dX2_clear_6 : decode cX2_clear 6 = .ok (.iconst 0, 1) := by decide +kernel
theorem dX2_clear_7 : decode cX2_clear 7 = .ok (.putfield 15, 3) := by decide +kernel
theorem dX2_clear_10 : decode cX2_clear 10 = .ok (.iload_n 1, 1) := by decide +kernel
theorem dX2_clear_11 : decode cX2_clear 11 = .ok (.ireturn, 1) := by decide +kernel
theorem dX2_firstFault_0 : decode cX2_firstFault 0 = .ok (.aload_n 0, 1) := by decide +kernel
theorem dX2_firstFault_1 : decode cX2_firstFault 1 = .ok (.invokevirtual 52, 3) := by decide +kernel
theorem dX2_firstFault_4 : decode cX2_firstFault 4 = .ok (.iconst 1, 1) := by decide +kernel
theorem dX2_firstFault_5 : decode cX2_firstFault 5 = .ok (.istore_n 1, 1) := by decide +kernel
theorem dX2_firstFault_6 : decode cX2_firstFault 6 = .ok (.iconst 0, 1) := by decide +kernel
theorem dX2_firstFault_7 : decode cX2_firstFault 7 = .ok (.istore_n 2, 1) := by decide +kernel
theorem dX2_firstFault_8 : decode cX2_firstFault 8 = .ok (.iload_n 2, 1) := by decide +kernel
theorem dX2_firstFault_9 : decode cX2_firstFault 9 = .ok (.bipush 80, 2) := by decide +kernel
theorem dX2_firstFault_11 : decode cX2_firstFault 11 = .ok (.if_icmp .ge 18, 3) := by decide +kernel
theorem dX2_firstFault_14 : decode cX2_firstFault 14 = .ok (.iload_n 1, 1) := by decide +kernel
theorem dX2_firstFault_15 : decode cX2_firstFault 15 = .ok (.ifCond .eq 14, 3) := by decide +kernel
theorem dX2_firstFault_18 : decode cX2_firstFault 18 = .ok (.aload_n 0, 1) := by decide +kernel
theorem dX2_firstFault_19 : decode cX2_firstFault 19 = .ok (.invokevirtual 55, 3) := by decide +kernel
theorem dX2_firstFault_22 : decode cX2_firstFault 22 = .ok (.istore_n 1, 1) := by decide +kernel
theorem dX2_firstFault_23 : decode cX2_firstFault 23 = .ok (.iinc 2 1, 3) := by decide +kernel
theorem dX2_firstFault_26 : decode cX2_firstFault 26 = .ok (.goto (-18), 3) := by decide +kernel
theorem dX2_firstFault_29 : decode cX2_firstFault 29 = .ok (.aload_n 0, 1) := by decide +kernel
theorem dX2_firstFault_30 : decode cX2_firstFault 30 = .ok (.getfield 22, 3) := by decide +kernel
theorem dX2_firstFault_33 : decode cX2_firstFault 33 = .ok (.ifCond .ne 14, 3) := by decide +kernel
theorem dX2_firstFault_36 : decode cX2_firstFault 36 = .ok (.aload_n 0, 1) := by decide +kernel
theorem dX2_firstFault_37 : decode cX2_firstFault 37 = .ok (.getfield 19, 3) := by decide +kernel
theorem dX2_firstFault_40 : decode cX2_firstFault 40 = .ok (.aload_n 0, 1) := by decide +kernel
theorem dX2_firstFault_41 : decode cX2_firstFault 41 = .ok (.getfield 15, 3) := by decide +kernel
theorem dX2_firstFault_44 : decode cX2_firstFault 44 = .ok (.if_icmp .ge 10, 3) := by decide +kernel
theorem dX2_firstFault_47 : decode cX2_firstFault 47 = .ok (.aload_n 0, 1) := by decide +kernel
theorem dX2_firstFault_48 : decode cX2_firstFault 48 = .ok (.getfield 19, 3) := by decide +kernel
theorem dX2_firstFault_51 : decode cX2_firstFault 51 = .ok (.goto 5, 3) := by decide +kernel
theorem dX2_firstFault_54 : decode cX2_firstFault 54 = .ok (.bipush (-6), 2) := by decide +kernel
theorem dX2_firstFault_56 : decode cX2_firstFault 56 = .ok (.ireturn, 1) := by decide +kernel
theorem dX2_startReading_0 : decode cX2_startReading 0 = .ok (.aload_n 0, 1) := by decide +kernel
theorem dX2_startReading_1 : decode cX2_startReading 1 = .ok (.iconst 0, 1) := by decide +kernel
theorem dX2_startReading_2 : decode cX2_startReading 2 = .ok (.putfield 19, 3) := by decide +kernel
theorem dX2_startReading_5 : decode cX2_startReading 5 = .ok (.aload_n 0, 1) := by decide +kernel
theorem dX2_startReading_6 : decode cX2_startReading 6 = .ok (.iconst 0, 1) := by decide +kernel
theorem dX2_startReading_7 : decode cX2_startReading 7 = .ok (.putfield 22, 3) := by decide +kernel
theorem dX2_startReading_10 : decode cX2_startReading 10 = .ok (.return_, 1) := by decide +kernel
theorem dX2_readOrder_0 : decode cX2_readOrder 0 = .ok (.aload_n 0, 1) := by decide +kernel
theorem dX2_readOrder_1 : decode cX2_readOrder 1 = .ok (.getfield 19, 3) := by decide +kernel
theorem dX2_readOrder_4 : decode cX2_readOrder 4 = .ok (.ifCond .le 14, 3) := by decide +kernel
theorem dX2_readOrder_7 : decode cX2_readOrder 7 = .ok (.aload_n 0, 1) := by decide +kernel
theorem dX2_readOrder_8 : decode cX2_readOrder 8 = .ok (.bipush 59, 2) := by decide +kernel
theorem dX2_readOrder_10 : decode cX2_readOrder 10 = .ok (.invokevirtual 59, 3) := by decide +kernel
theorem dX2_readOrder_13 : decode cX2_readOrder 13 = .ok (.ifCond .ne 5, 3) := by decide +kernel
theorem dX2_readOrder_16 : decode cX2_readOrder 16 = .ok (.iconst 0, 1) := by decide +kernel
theorem dX2_readOrder_17 : decode cX2_readOrder 17 = .ok (.ireturn, 1) := by decide +kernel
theorem dX2_readOrder_18 : decode cX2_readOrder 18 = .ok (.aload_n 0, 1) := by decide +kernel
theorem dX2_readOrder_19 : decode cX2_readOrder 19 = .ok (.iconst 1, 1) := by decide +kernel
theorem dX2_readOrder_20 : decode cX2_readOrder 20 = .ok (.putfield 39, 3) := by decide +kernel
theorem dX2_readOrder_23 : decode cX2_readOrder 23 = .ok (.aload_n 0, 1) := by decide +kernel
theorem dX2_readOrder_24 : decode cX2_readOrder 24 = .ok (.bipush 102, 2) := by decide +kernel
theorem dX2_readOrder_26 : decode cX2_readOrder 26 = .ok (.invokevirtual 59, 3) := by decide +kernel
theorem dX2_readOrder_29 : decode cX2_readOrder 29 = .ok (.ifCond .eq 10, 3) := by decide +kernel
theorem dX2_readOrder_32 : decode cX2_readOrder 32 = .ok (.aload_n 0, 1) := by decide +kernel
theorem dX2_readOrder_33 : decode cX2_readOrder 33 = .ok (.invokevirtual 63, 3) := by decide +kernel
theorem dX2_readOrder_36 : decode cX2_readOrder 36 = .ok (.goto 76, 3) := by decide +kernel
theorem dX2_readOrder_39 : decode cX2_readOrder 39 = .ok (.aload_n 0, 1) := by decide +kernel
theorem dX2_readOrder_40 : decode cX2_readOrder 40 = .ok (.bipush 116, 2) := by decide +kernel
theorem dX2_readOrder_42 : decode cX2_readOrder 42 = .ok (.invokevirtual 59, 3) := by decide +kernel
theorem dX2_readOrder_45 : decode cX2_readOrder 45 = .ok (.ifCond .eq 20, 3) := by decide +kernel
theorem dX2_readOrder_48 : decode cX2_readOrder 48 = .ok (.aload_n 0, 1) := by decide +kernel
theorem dX2_readOrder_49 : decode cX2_readOrder 49 = .ok (.bipush 116, 2) := by decide +kernel
theorem dX2_readOrder_51 : decode cX2_readOrder 51 = .ok (.putfield 26, 3) := by decide +kernel
theorem dX2_readOrder_54 : decode cX2_readOrder 54 = .ok (.aload_n 0, 1) := by decide +kernel
theorem dX2_readOrder_55 : decode cX2_readOrder 55 = .ok (.aload_n 0, 1) := by decide +kernel
theorem dX2_readOrder_56 : decode cX2_readOrder 56 = .ok (.invokevirtual 66, 3) := by decide +kernel
theorem dX2_readOrder_59 : decode cX2_readOrder 59 = .ok (.putfield 30, 3) := by decide +kernel
theorem dX2_readOrder_62 : decode cX2_readOrder 62 = .ok (.goto 50, 3) := by decide +kernel
theorem dX2_readOrder_65 : decode cX2_readOrder 65 = .ok (.aload_n 0, 1) := by decide +kernel
theorem dX2_readOrder_66 : decode cX2_readOrder 66 = .ok (.bipush 113, 2) := by decide +kernel
theorem dX2_readOrder_68 : decode cX2_readOrder 68 = .ok (.invokevirtual 59, 3) := by decide +kernel
theorem dX2_readOrder_71 : decode cX2_readOrder 71 = .ok (.ifCond .eq 10, 3) := by decide +kernel
theorem dX2_readOrder_74 : decode cX2_readOrder 74 = .ok (.aload_n 0, 1) := by decide +kernel
theorem dX2_readOrder_75 : decode cX2_readOrder 75 = .ok (.invokevirtual 70, 3) := by decide +kernel
theorem dX2_readOrder_78 : decode cX2_readOrder 78 = .ok (.goto 34, 3) := by decide +kernel
theorem dX2_readOrder_81 : decode cX2_readOrder 81 = .ok (.aload_n 0, 1) := by decide +kernel
theorem dX2_readOrder_82 : decode cX2_readOrder 82 = .ok (.bipush 109, 2) := by decide +kernel
theorem dX2_readOrder_84 : decode cX2_readOrder 84 = .ok (.invokevirtual 59, 3) := by decide +kernel
theorem dX2_readOrder_87 : decode cX2_readOrder 87 = .ok (.ifCond .eq 20, 3) := by decide +kernel
theorem dX2_readOrder_90 : decode cX2_readOrder 90 = .ok (.aload_n 0, 1) := by decide +kernel
theorem dX2_readOrder_91 : decode cX2_readOrder 91 = .ok (.bipush 109, 2) := by decide +kernel
theorem dX2_readOrder_93 : decode cX2_readOrder 93 = .ok (.putfield 26, 3) := by decide +kernel
theorem dX2_readOrder_96 : decode cX2_readOrder 96 = .ok (.aload_n 0, 1) := by decide +kernel
theorem dX2_readOrder_97 : decode cX2_readOrder 97 = .ok (.aload_n 0, 1) := by decide +kernel
theorem dX2_readOrder_98 : decode cX2_readOrder 98 = .ok (.invokevirtual 73, 3) := by decide +kernel
theorem dX2_readOrder_101 : decode cX2_readOrder 101 = .ok (.putfield 30, 3) := by decide +kernel
theorem dX2_readOrder_104 : decode cX2_readOrder 104 = .ok (.goto 8, 3) := by decide +kernel
theorem dX2_readOrder_107 : decode cX2_readOrder 107 = .ok (.aload_n 0, 1) := by decide +kernel
theorem dX2_readOrder_108 : decode cX2_readOrder 108 = .ok (.iconst 1, 1) := by decide +kernel
theorem dX2_readOrder_109 : decode cX2_readOrder 109 = .ok (.putfield 22, 3) := by decide +kernel
theorem dX2_readOrder_112 : decode cX2_readOrder 112 = .ok (.aload_n 0, 1) := by decide +kernel
theorem dX2_readOrder_113 : decode cX2_readOrder 113 = .ok (.getfield 22, 3) := by decide +kernel
theorem dX2_readOrder_116 : decode cX2_readOrder 116 = .ok (.ifCond .ne 7, 3) := by decide +kernel
theorem dX2_readOrder_119 : decode cX2_readOrder 119 = .ok (.iconst 1, 1) := by decide +kernel
theorem dX2_readOrder_120 : decode cX2_readOrder 120 = .ok (.goto 4, 3) := by decide +kernel
theorem dX2_readOrder_123 : decode cX2_readOrder 123 = .ok (.iconst 0, 1) := by decide +kernel
theorem dX2_readOrder_124 : decode cX2_readOrder 124 = .ok (.ireturn, 1) := by decide +kernel
theorem dX2_readFrames_0 : decode cX2_readFrames 0 = .ok (.aload_n 0, 1) := by decide +kernel
theorem dX2_readFrames_1 : decode cX2_readFrames 1 = .ok (.bipush 102, 2) := by decide +kernel
theorem dX2_readFrames_3 : decode cX2_readFrames 3 = .ok (.putfield 26, 3) := by decide +kernel
theorem dX2_readFrames_6 : decode cX2_readFrames 6 = .ok (.aload_n 0, 1) := by decide +kernel
theorem dX2_readFrames_7 : decode cX2_readFrames 7 = .ok (.aload_n 0, 1) := by decide +kernel
theorem dX2_readFrames_8 : decode cX2_readFrames 8 = .ok (.invokevirtual 66, 3) := by decide +kernel
theorem dX2_readFrames_11 : decode cX2_readFrames 11 = .ok (.putfield 30, 3) := by decide +kernel
theorem dX2_readFrames_14 : decode cX2_readFrames 14 = .ok (.aload_n 0, 1) := by decide +kernel
theorem dX2_readFrames_15 : decode cX2_readFrames 15 = .ok (.bipush 42, 2) := by decide +kernel
theorem dX2_readFrames_17 : decode cX2_readFrames 17 = .ok (.invokevirtual 59, 3) := by decide +kernel
theorem dX2_readFrames_20 : decode cX2_readFrames 20 = .ok (.ifCond .eq 11, 3) := by decide +kernel
theorem dX2_readFrames_23 : decode cX2_readFrames 23 = .ok (.aload_n 0, 1) := by decide +kernel
theorem dX2_readFrames_24 : decode cX2_readFrames 24 = .ok (.aload_n 0, 1) := by decide +kernel
theorem dX2_readFrames_25 : decode cX2_readFrames 25 = .ok (.invokevirtual 66, 3) := by decide +kernel
theorem dX2_readFrames_28 : decode cX2_readFrames 28 = .ok (.putfield 39, 3) := by decide +kernel
theorem dX2_readFrames_31 : decode cX2_readFrames 31 = .ok (.return_, 1) := by decide +kernel
theorem dX2_readBounds_0 : decode cX2_readBounds 0 = .ok (.aload_n 0, 1) := by decide +kernel
theorem dX2_readBounds_1 : decode cX2_readBounds 1 = .ok (.bipush 113, 2) := by decide +kernel
theorem dX2_readBounds_3 : decode cX2_readBounds 3 = .ok (.putfield 26, 3) := by decide +kernel
theorem dX2_readBounds_6 : decode cX2_readBounds 6 = .ok (.aload_n 0, 1) := by decide +kernel
theorem dX2_readBounds_7 : decode cX2_readBounds 7 = .ok (.aload_n 0, 1) := by decide +kernel
theorem dX2_readBounds_8 : decode cX2_readBounds 8 = .ok (.invokevirtual 73, 3) := by decide +kernel
theorem dX2_readBounds_11 : decode cX2_readBounds 11 = .ok (.putfield 30, 3) := by decide +kernel
theorem dX2_readBounds_14 : decode cX2_readBounds 14 = .ok (.aload_n 0, 1) := by decide +kernel
theorem dX2_readBounds_15 : decode cX2_readBounds 15 = .ok (.bipush 61, 2) := by decide +kernel
theorem dX2_readBounds_17 : decode cX2_readBounds 17 = .ok (.invokevirtual 76, 3) := by decide +kernel
theorem dX2_readBounds_20 : decode cX2_readBounds 20 = .ok (.aload_n 0, 1) := by decide +kernel
theorem dX2_readBounds_21 : decode cX2_readBounds 21 = .ok (.aload_n 0, 1) := by decide +kernel
theorem dX2_readBounds_22 : decode cX2_readBounds 22 = .ok (.invokevirtual 66, 3) := by decide +kernel
theorem dX2_readBounds_25 : decode cX2_readBounds 25 = .ok (.putfield 33, 3) := by decide +kernel
theorem dX2_readBounds_28 : decode cX2_readBounds 28 = .ok (.aload_n 0, 1) := by decide +kernel
theorem dX2_readBounds_29 : decode cX2_readBounds 29 = .ok (.bipush 44, 2) := by decide +kernel
theorem dX2_readBounds_31 : decode cX2_readBounds 31 = .ok (.invokevirtual 76, 3) := by decide +kernel
theorem dX2_readBounds_34 : decode cX2_readBounds 34 = .ok (.aload_n 0, 1) := by decide +kernel
theorem dX2_readBounds_35 : decode cX2_readBounds 35 = .ok (.aload_n 0, 1) := by decide +kernel
theorem dX2_readBounds_36 : decode cX2_readBounds 36 = .ok (.invokevirtual 66, 3) := by decide +kernel
theorem dX2_readBounds_39 : decode cX2_readBounds 39 = .ok (.putfield 36, 3) := by decide +kernel
theorem dX2_readBounds_42 : decode cX2_readBounds 42 = .ok (.return_, 1) := by decide +kernel
theorem dX2_readNumber_0 : decode cX2_readNumber 0 = .ok (.aload_n 0, 1) := by decide +kernel
theorem dX2_readNumber_1 : decode cX2_readNumber 1 = .ok (.invokevirtual 73, 3) := by decide +kernel
theorem dX2_readNumber_4 : decode cX2_readNumber 4 = .ok (.istore_n 1, 1) := by decide +kernel
theorem dX2_readNumber_5 : decode cX2_readNumber 5 = .ok (.iload_n 1, 1) := by decide +kernel
theorem dX2_readNumber_6 : decode cX2_readNumber 6 = .ok (.ifCond .le 20, 3) := by decide +kernel
theorem dX2_readNumber_9 : decode cX2_readNumber 9 = .ok (.aload_n 0, 1) := by decide +kernel
theorem dX2_readNumber_10 : decode cX2_readNumber 10 = .ok (.invokevirtual 80, 3) := by decide +kernel
theorem dX2_readNumber_13 : decode cX2_readNumber 13 = .ok (.ifCond .eq 13, 3) := by decide +kernel
theorem dX2_readNumber_16 : decode cX2_readNumber 16 = .ok (.bipush 10, 2) := by decide +kernel
theorem dX2_readNumber_18 : decode cX2_readNumber 18 = .ok (.iload_n 1, 1) := by decide +kernel
theorem dX2_readNumber_19 : decode cX2_readNumber 19 = .ok (.imul, 1) := by decide +kernel
theorem dX2_readNumber_20 : decode cX2_readNumber 20 = .ok (.aload_n 0, 1) := by decide +kernel
theorem dX2_readNumber_21 : decode cX2_readNumber 21 = .ok (.invokevirtual 73, 3) := by decide +kernel
theorem dX2_readNumber_24 : decode cX2_readNumber 24 = .ok (.iadd, 1) := by decide +kernel
theorem dX2_readNumber_25 : decode cX2_readNumber 25 = .ok (.istore_n 1, 1) := by decide +kernel
theorem dX2_readNumber_26 : decode cX2_readNumber 26 = .ok (.iload_n 1, 1) := by decide +kernel
theorem dX2_readNumber_27 : decode cX2_readNumber 27 = .ok (.ireturn, 1) := by decide +kernel
theorem dX2_readDigit_0 : decode cX2_readDigit 0 = .ok (.aload_n 0, 1) := by decide +kernel
theorem dX2_readDigit_1 : decode cX2_readDigit 1 = .ok (.invokevirtual 80, 3) := by decide +kernel
theorem dX2_readDigit_4 : decode cX2_readDigit 4 = .ok (.ifCond .ne 10, 3) := by decide +kernel
theorem dX2_readDigit_7 : decode cX2_readDigit 7 = .ok (.aload_n 0, 1) := by decide +kernel
theorem dX2_readDigit_8 : decode cX2_readDigit 8 = .ok (.iconst 1, 1) := by decide +kernel
theorem dX2_readDigit_9 : decode cX2_readDigit 9 = .ok (.putfield 22, 3) := by decide +kernel
theorem dX2_readDigit_12 : decode cX2_readDigit 12 = .ok (.iconst 0, 1) := by decide +kernel
theorem dX2_readDigit_13 : decode cX2_readDigit 13 = .ok (.ireturn, 1) := by decide +kernel
theorem dX2_readDigit_14 : decode cX2_readDigit 14 = .ok (.aload_n 0, 1) := by decide +kernel
theorem dX2_readDigit_15 : decode cX2_readDigit 15 = .ok (.getfield 11, 3) := by decide +kernel
theorem dX2_readDigit_18 : decode cX2_readDigit 18 = .ok (.aload_n 0, 1) := by decide +kernel
theorem dX2_readDigit_19 : decode cX2_readDigit 19 = .ok (.getfield 19, 3) := by decide +kernel
theorem dX2_readDigit_22 : decode cX2_readDigit 22 = .ok (.caload, 1) := by decide +kernel
theorem dX2_readDigit_23 : decode cX2_readDigit 23 = .ok (.bipush 48, 2) := by decide +kernel
theorem dX2_readDigit_25 : decode cX2_readDigit 25 = .ok (.isub, 1) := by decide +kernel
theorem dX2_readDigit_26 : decode cX2_readDigit 26 = .ok (.istore_n 1, 1) := by decide +kernel
theorem dX2_readDigit_27 : decode cX2_readDigit 27 = .ok (.aload_n 0, 1) := by decide +kernel
theorem dX2_readDigit_28 : decode cX2_readDigit 28 = .ok (.dup, 1) := by decide +kernel
theorem dX2_readDigit_29 : decode cX2_readDigit 29 = .ok (.getfield 19, 3) := by decide +kernel
theorem dX2_readDigit_32 : decode cX2_readDigit 32 = .ok (.iconst 1, 1) := by decide +kernel
theorem dX2_readDigit_33 : decode cX2_readDigit 33 = .ok (.iadd, 1) := by decide +kernel
theorem dX2_readDigit_34 : decode cX2_readDigit 34 = .ok (.putfield 19, 3) := by decide +kernel
theorem dX2_readDigit_37 : decode cX2_readDigit 37 = .ok (.iload_n 1, 1) := by decide +kernel
theorem dX2_readDigit_38 : decode cX2_readDigit 38 = .ok (.ireturn, 1) := by decide +kernel
theorem dX2_demand_0 : decode cX2_demand 0 = .ok (.aload_n 0, 1) := by decide +kernel
theorem dX2_demand_1 : decode cX2_demand 1 = .ok (.iload_n 1, 1) := by decide +kernel
theorem dX2_demand_2 : decode cX2_demand 2 = .ok (.invokevirtual 59, 3) := by decide +kernel
theorem dX2_demand_5 : decode cX2_demand 5 = .ok (.ifCond .ne 8, 3) := by decide +kernel
theorem dX2_demand_8 : decode cX2_demand 8 = .ok (.aload_n 0, 1) := by decide +kernel
theorem dX2_demand_9 : decode cX2_demand 9 = .ok (.iconst 1, 1) := by decide +kernel
theorem dX2_demand_10 : decode cX2_demand 10 = .ok (.putfield 22, 3) := by decide +kernel
theorem dX2_demand_13 : decode cX2_demand 13 = .ok (.return_, 1) := by decide +kernel
theorem dX2_readSign_0 : decode cX2_readSign 0 = .ok (.aload_n 0, 1) := by decide +kernel
theorem dX2_readSign_1 : decode cX2_readSign 1 = .ok (.getfield 22, 3) := by decide +kernel
theorem dX2_readSign_4 : decode cX2_readSign 4 = .ok (.ifCond .ne 27, 3) := by decide +kernel
theorem dX2_readSign_7 : decode cX2_readSign 7 = .ok (.aload_n 0, 1) := by decide +kernel
theorem dX2_readSign_8 : decode cX2_readSign 8 = .ok (.getfield 19, 3) := by decide +kernel
theorem dX2_readSign_11 : decode cX2_readSign 11 = .ok (.aload_n 0, 1) := by decide +kernel
theorem dX2_readSign_12 : decode cX2_readSign 12 = .ok (.getfield 15, 3) := by decide +kernel
theorem dX2_readSign_15 : decode cX2_readSign 15 = .ok (.if_icmp .ge 16, 3) := by decide +kernel
theorem dX2_readSign_18 : decode cX2_readSign 18 = .ok (.aload_n 0, 1) := by decide +kernel
theorem dX2_readSign_19 : decode cX2_readSign 19 = .ok (.getfield 11, 3) := by decide +kernel
theorem dX2_readSign_22 : decode cX2_readSign 22 = .ok (.aload_n 0, 1) := by decide +kernel
theorem dX2_readSign_23 : decode cX2_readSign 23 = .ok (.getfield 19, 3) := by decide +kernel
theorem dX2_readSign_26 : decode cX2_readSign 26 = .ok (.caload, 1) := by decide +kernel
theorem dX2_readSign_27 : decode cX2_readSign 27 = .ok (.iload_n 1, 1) := by decide +kernel
theorem dX2_readSign_28 : decode cX2_readSign 28 = .ok (.if_icmp .eq 5, 3) := by decide +kernel
theorem dX2_readSign_31 : decode cX2_readSign 31 = .ok (.iconst 0, 1) := by decide +kernel
theorem dX2_readSign_32 : decode cX2_readSign 32 = .ok (.ireturn, 1) := by decide +kernel
theorem dX2_readSign_33 : decode cX2_readSign 33 = .ok (.aload_n 0, 1) := by decide +kernel
theorem dX2_readSign_34 : decode cX2_readSign 34 = .ok (.dup, 1) := by decide +kernel
theorem dX2_readSign_35 : decode cX2_readSign 35 = .ok (.getfield 19, 3) := by decide +kernel
theorem dX2_readSign_38 : decode cX2_readSign 38 = .ok (.iconst 1, 1) := by decide +kernel
theorem dX2_readSign_39 : decode cX2_readSign 39 = .ok (.iadd, 1) := by decide +kernel
theorem dX2_readSign_40 : decode cX2_readSign 40 = .ok (.putfield 19, 3) := by decide +kernel
theorem dX2_readSign_43 : decode cX2_readSign 43 = .ok (.iconst 1, 1) := by decide +kernel
theorem dX2_readSign_44 : decode cX2_readSign 44 = .ok (.ireturn, 1) := by decide +kernel
theorem dX2_digitStands_0 : decode cX2_digitStands 0 = .ok (.aload_n 0, 1) := by decide +kernel
theorem dX2_digitStands_1 : decode cX2_digitStands 1 = .ok (.getfield 22, 3) := by decide +kernel
theorem dX2_digitStands_4 : decode cX2_digitStands 4 = .ok (.ifCond .ne 46, 3) := by decide +kernel
theorem dX2_digitStands_7 : decode cX2_digitStands 7 = .ok (.aload_n 0, 1) := by decide +kernel
theorem dX2_digitStands_8 : decode cX2_digitStands 8 = .ok (.getfield 19, 3) := by decide +kernel
theorem dX2_digitStands_11 : decode cX2_digitStands 11 = .ok (.aload_n 0, 1) := by decide +kernel
theorem dX2_digitStands_12 : decode cX2_digitStands 12 = .ok (.getfield 15, 3) := by decide +kernel
theorem dX2_digitStands_15 : decode cX2_digitStands 15 = .ok (.if_icmp .ge 35, 3) := by decide +kernel
theorem dX2_digitStands_18 : decode cX2_digitStands 18 = .ok (.aload_n 0, 1) := by decide +kernel
theorem dX2_digitStands_19 : decode cX2_digitStands 19 = .ok (.getfield 11, 3) := by decide +kernel
theorem dX2_digitStands_22 : decode cX2_digitStands 22 = .ok (.aload_n 0, 1) := by decide +kernel
theorem dX2_digitStands_23 : decode cX2_digitStands 23 = .ok (.getfield 19, 3) := by decide +kernel
theorem dX2_digitStands_26 : decode cX2_digitStands 26 = .ok (.caload, 1) := by decide +kernel
theorem dX2_digitStands_27 : decode cX2_digitStands 27 = .ok (.bipush 48, 2) := by decide +kernel
theorem dX2_digitStands_29 : decode cX2_digitStands 29 = .ok (.if_icmp .lt 21, 3) := by decide +kernel
theorem dX2_digitStands_32 : decode cX2_digitStands 32 = .ok (.aload_n 0, 1) := by decide +kernel
theorem dX2_digitStands_33 : decode cX2_digitStands 33 = .ok (.getfield 11, 3) := by decide +kernel
theorem dX2_digitStands_36 : decode cX2_digitStands 36 = .ok (.aload_n 0, 1) := by decide +kernel
theorem dX2_digitStands_37 : decode cX2_digitStands 37 = .ok (.getfield 19, 3) := by decide +kernel
theorem dX2_digitStands_40 : decode cX2_digitStands 40 = .ok (.caload, 1) := by decide +kernel
theorem dX2_digitStands_41 : decode cX2_digitStands 41 = .ok (.bipush 57, 2) := by decide +kernel
theorem dX2_digitStands_43 : decode cX2_digitStands 43 = .ok (.if_icmp .gt 7, 3) := by decide +kernel
theorem dX2_digitStands_46 : decode cX2_digitStands 46 = .ok (.iconst 1, 1) := by decide +kernel
theorem dX2_digitStands_47 : decode cX2_digitStands 47 = .ok (.goto 4, 3) := by decide +kernel
theorem dX2_digitStands_50 : decode cX2_digitStands 50 = .ok (.iconst 0, 1) := by decide +kernel
theorem dX2_digitStands_51 : decode cX2_digitStands 51 = .ok (.ireturn, 1) := by decide +kernel
theorem dX3_init_0 : decode cX3_init 0 = .ok (.aload_n 0, 1) := by decide +kernel
theorem dX3_init_1 : decode cX3_init 1 = .ok (.invokespecial 3, 3) := by decide +kernel
theorem dX3_init_4 : decode cX3_init 4 = .ok (.aload_n 0, 1) := by decide +kernel
theorem dX3_init_5 : decode cX3_init 5 = .ok (.iconst 4, 1) := by decide +kernel
theorem dX3_init_6 : decode cX3_init 6 = .ok (.putfield 9, 3) := by decide +kernel
theorem dX3_init_9 : decode cX3_init 9 = .ok (.aload_n 0, 1) := by decide +kernel
theorem dX3_init_10 : decode cX3_init 10 = .ok (.bipush 10, 2) := by decide +kernel
theorem dX3_init_12 : decode cX3_init 12 = .ok (.putfield 15, 3) := by decide +kernel
theorem dX3_init_15 : decode cX3_init 15 = .ok (.aload_n 0, 1) := by decide +kernel
theorem dX3_init_16 : decode cX3_init 16 = .ok (.iconst 4, 1) := by decide +kernel
theorem dX3_init_17 : decode cX3_init 17 = .ok (.putfield 18, 3) := by decide +kernel
theorem dX3_init_20 : decode cX3_init 20 = .ok (.aload_n 0, 1) := by decide +kernel
theorem dX3_init_21 : decode cX3_init 21 = .ok (.iconst (-1), 1) := by decide +kernel
theorem dX3_init_22 : decode cX3_init 22 = .ok (.putfield 21, 3) := by decide +kernel
theorem dX3_init_25 : decode cX3_init 25 = .ok (.aload_n 0, 1) := by decide +kernel
theorem dX3_init_26 : decode cX3_init 26 = .ok (.iconst 0, 1) := by decide +kernel
theorem dX3_init_27 : decode cX3_init 27 = .ok (.putfield 24, 3) := by decide +kernel
theorem dX3_init_30 : decode cX3_init 30 = .ok (.aload_n 0, 1) := by decide +kernel
theorem dX3_init_31 : decode cX3_init 31 = .ok (.iconst 0, 1) := by decide +kernel
theorem dX3_init_32 : decode cX3_init 32 = .ok (.putfield 28, 3) := by decide +kernel
theorem dX3_init_35 : decode cX3_init 35 = .ok (.aload_n 0, 1) := by decide +kernel
theorem dX3_init_36 : decode cX3_init 36 = .ok (.bipush (-6), 2) := by decide +kernel
theorem dX3_init_38 : decode cX3_init 38 = .ok (.putfield 31, 3) := by decide +kernel
theorem dX3_init_41 : decode cX3_init 41 = .ok (.aload_n 0, 1) := by decide +kernel
theorem dX3_init_42 : decode cX3_init 42 = .ok (.iconst 0, 1) := by decide +kernel
theorem dX3_init_43 : decode cX3_init 43 = .ok (.putfield 34, 3) := by decide +kernel
theorem dX3_init_46 : decode cX3_init 46 = .ok (.aload_n 0, 1) := by decide +kernel
theorem dX3_init_47 : decode cX3_init 47 = .ok (.iconst 0, 1) := by decide +kernel
theorem dX3_init_48 : decode cX3_init 48 = .ok (.putfield 37, 3) := by decide +kernel
theorem dX3_init_51 : decode cX3_init 51 = .ok (.aload_n 0, 1) := by decide +kernel
theorem dX3_init_52 : decode cX3_init 52 = .ok (.iconst 0, 1) := by decide +kernel
theorem dX3_init_53 : decode cX3_init 53 = .ok (.putfield 40, 3) := by decide +kernel
theorem dX3_init_56 : decode cX3_init 56 = .ok (.aload_n 0, 1) := by decide +kernel
theorem dX3_init_57 : decode cX3_init 57 = .ok (.iconst 0, 1) := by decide +kernel
theorem dX3_init_58 : decode cX3_init 58 = .ok (.putfield 43, 3) := by decide +kernel
theorem dX3_init_61 : decode cX3_init 61 = .ok (.aload_n 0, 1) := by decide +kernel
theorem dX3_init_62 : decode cX3_init 62 = .ok (.bipush (-6), 2) := by decide +kernel
theorem dX3_init_64 : decode cX3_init 64 = .ok (.putfield 46, 3) := by decide +kernel
theorem dX3_init_67 : decode cX3_init 67 = .ok (.aload_n 0, 1) := by decide +kernel
theorem dX3_init_68 : decode cX3_init 68 = .ok (.iconst 0, 1) := by decide +kernel
theorem dX3_init_69 : decode cX3_init 69 = .ok (.putfield 49, 3) := by decide +kernel
theorem dX3_init_72 : decode cX3_init 72 = .ok (.return_, 1) := by decide +kernel
theorem dX3_copyFrom_0 : decode cX3_copyFrom 0 = .ok (.aload_n 0, 1) := by decide +kernel
theorem dX3_copyFrom_1 : decode cX3_copyFrom 1 = .ok (.aload_n 1, 1) := by decide +kernel
theorem dX3_copyFrom_2 : decode cX3_copyFrom 2 = .ok (.getfield 9, 3) := by decide +kernel
theorem dX3_copyFrom_5 : decode cX3_copyFrom 5 = .ok (.putfield 9, 3) := by decide +kernel
theorem dX3_copyFrom_8 : decode cX3_copyFrom 8 = .ok (.aload_n 0, 1) := by decide +kernel
theorem dX3_copyFrom_9 : decode cX3_copyFrom 9 = .ok (.aload_n 1, 1) := by decide +kernel
theorem dX3_copyFrom_10 : decode cX3_copyFrom 10 = .ok (.getfield 15, 3) := by decide +kernel
theorem dX3_copyFrom_13 : decode cX3_copyFrom 13 = .ok (.putfield 15, 3) := by decide +kernel
theorem dX3_copyFrom_16 : decode cX3_copyFrom 16 = .ok (.aload_n 0, 1) := by decide +kernel
theorem dX3_copyFrom_17 : decode cX3_copyFrom 17 = .ok (.aload_n 1, 1) := by decide +kernel
theorem dX3_copyFrom_18 : decode cX3_copyFrom 18 = .ok (.getfield 18, 3) := by decide +kernel
theorem dX3_copyFrom_21 : decode cX3_copyFrom 21 = .ok (.putfield 18, 3) := by decide +kernel
theorem dX3_copyFrom_24 : decode cX3_copyFrom 24 = .ok (.aload_n 0, 1) := by decide +kernel
theorem dX3_copyFrom_25 : decode cX3_copyFrom 25 = .ok (.aload_n 1, 1) := by decide +kernel
theorem dX3_copyFrom_26 : decode cX3_copyFrom 26 = .ok (.getfield 21, 3) := by decide +kernel
theorem dX3_copyFrom_29 : decode cX3_copyFrom 29 = .ok (.putfield 21, 3) := by decide +kernel
theorem dX3_copyFrom_32 : decode cX3_copyFrom 32 = .ok (.aload_n 0, 1) := by decide +kernel
theorem dX3_copyFrom_33 : decode cX3_copyFrom 33 = .ok (.aload_n 1, 1) := by decide +kernel
theorem dX3_copyFrom_34 : decode cX3_copyFrom 34 = .ok (.getfield 24, 3) := by decide +kernel
theorem dX3_copyFrom_37 : decode cX3_copyFrom 37 = .ok (.putfield 24, 3) := by decide +kernel
theorem dX3_copyFrom_40 : decode cX3_copyFrom 40 = .ok (.aload_n 0, 1) := by decide +kernel
theorem dX3_copyFrom_41 : decode cX3_copyFrom 41 = .ok (.aload_n 1, 1) := by decide +kernel
theorem dX3_copyFrom_42 : decode cX3_copyFrom 42 = .ok (.getfield 28, 3) := by decide +kernel
theorem dX3_copyFrom_45 : decode cX3_copyFrom 45 = .ok (.putfield 28, 3) := by decide +kernel
theorem dX3_copyFrom_48 : decode cX3_copyFrom 48 = .ok (.aload_n 0, 1) := by decide +kernel
theorem dX3_copyFrom_49 : decode cX3_copyFrom 49 = .ok (.aload_n 1, 1) := by decide +kernel
theorem dX3_copyFrom_50 : decode cX3_copyFrom 50 = .ok (.getfield 31, 3) := by decide +kernel
theorem dX3_copyFrom_53 : decode cX3_copyFrom 53 = .ok (.putfield 31, 3) := by decide +kernel
theorem dX3_copyFrom_56 : decode cX3_copyFrom 56 = .ok (.aload_n 0, 1) := by decide +kernel
theorem dX3_copyFrom_57 : decode cX3_copyFrom 57 = .ok (.aload_n 1, 1) := by decide +kernel
theorem dX3_copyFrom_58 : decode cX3_copyFrom 58 = .ok (.getfield 34, 3) := by decide +kernel
theorem dX3_copyFrom_61 : decode cX3_copyFrom 61 = .ok (.putfield 34, 3) := by decide +kernel
theorem dX3_copyFrom_64 : decode cX3_copyFrom 64 = .ok (.aload_n 0, 1) := by decide +kernel
theorem dX3_copyFrom_65 : decode cX3_copyFrom 65 = .ok (.aload_n 1, 1) := by decide +kernel
theorem dX3_copyFrom_66 : decode cX3_copyFrom 66 = .ok (.getfield 37, 3) := by decide +kernel
theorem dX3_copyFrom_69 : decode cX3_copyFrom 69 = .ok (.putfield 37, 3) := by decide +kernel
theorem dX3_copyFrom_72 : decode cX3_copyFrom 72 = .ok (.aload_n 0, 1) := by decide +kernel
theorem dX3_copyFrom_73 : decode cX3_copyFrom 73 = .ok (.aload_n 1, 1) := by decide +kernel
theorem dX3_copyFrom_74 : decode cX3_copyFrom 74 = .ok (.getfield 40, 3) := by decide +kernel
theorem dX3_copyFrom_77 : decode cX3_copyFrom 77 = .ok (.putfield 40, 3) := by decide +kernel
theorem dX3_copyFrom_80 : decode cX3_copyFrom 80 = .ok (.aload_n 0, 1) := by decide +kernel
theorem dX3_copyFrom_81 : decode cX3_copyFrom 81 = .ok (.aload_n 1, 1) := by decide +kernel
theorem dX3_copyFrom_82 : decode cX3_copyFrom 82 = .ok (.getfield 43, 3) := by decide +kernel
theorem dX3_copyFrom_85 : decode cX3_copyFrom 85 = .ok (.putfield 43, 3) := by decide +kernel
theorem dX3_copyFrom_88 : decode cX3_copyFrom 88 = .ok (.aload_n 0, 1) := by decide +kernel
theorem dX3_copyFrom_89 : decode cX3_copyFrom 89 = .ok (.aload_n 1, 1) := by decide +kernel
theorem dX3_copyFrom_90 : decode cX3_copyFrom 90 = .ok (.getfield 46, 3) := by decide +kernel
theorem dX3_copyFrom_93 : decode cX3_copyFrom 93 = .ok (.putfield 46, 3) := by decide +kernel
theorem dX3_copyFrom_96 : decode cX3_copyFrom 96 = .ok (.aload_n 0, 1) := by decide +kernel
theorem dX3_copyFrom_97 : decode cX3_copyFrom 97 = .ok (.aload_n 1, 1) := by decide +kernel
theorem dX3_copyFrom_98 : decode cX3_copyFrom 98 = .ok (.getfield 49, 3) := by decide +kernel
theorem dX3_copyFrom_101 : decode cX3_copyFrom 101 = .ok (.putfield 49, 3) := by decide +kernel
theorem dX3_copyFrom_104 : decode cX3_copyFrom 104 = .ok (.return_, 1) := by decide +kernel
theorem dX3_emptyLike_0 : decode cX3_emptyLike 0 = .ok (.aload_n 0, 1) := by decide +kernel
theorem dX3_emptyLike_1 : decode cX3_emptyLike 1 = .ok (.aload_n 1, 1) := by decide +kernel
theorem dX3_emptyLike_2 : decode cX3_emptyLike 2 = .ok (.getfield 9, 3) := by decide +kernel
theorem dX3_emptyLike_5 : decode cX3_emptyLike 5 = .ok (.putfield 9, 3) := by decide +kernel
theorem dX3_emptyLike_8 : decode cX3_emptyLike 8 = .ok (.aload_n 0, 1) := by decide +kernel
theorem dX3_emptyLike_9 : decode cX3_emptyLike 9 = .ok (.aload_n 1, 1) := by decide +kernel
theorem dX3_emptyLike_10 : decode cX3_emptyLike 10 = .ok (.getfield 15, 3) := by decide +kernel
theorem dX3_emptyLike_13 : decode cX3_emptyLike 13 = .ok (.putfield 15, 3) := by decide +kernel
theorem dX3_emptyLike_16 : decode cX3_emptyLike 16 = .ok (.aload_n 0, 1) := by decide +kernel
theorem dX3_emptyLike_17 : decode cX3_emptyLike 17 = .ok (.aload_n 1, 1) := by decide +kernel
theorem dX3_emptyLike_18 : decode cX3_emptyLike 18 = .ok (.getfield 9, 3) := by decide +kernel
theorem dX3_emptyLike_21 : decode cX3_emptyLike 21 = .ok (.putfield 18, 3) := by decide +kernel
theorem dX3_emptyLike_24 : decode cX3_emptyLike 24 = .ok (.aload_n 0, 1) := by decide +kernel
theorem dX3_emptyLike_25 : decode cX3_emptyLike 25 = .ok (.iconst (-1), 1) := by decide +kernel
theorem dX3_emptyLike_26 : decode cX3_emptyLike 26 = .ok (.putfield 21, 3) := by decide +kernel
theorem dX3_emptyLike_29 : decode cX3_emptyLike 29 = .ok (.aload_n 0, 1) := by decide +kernel
theorem dX3_emptyLike_30 : decode cX3_emptyLike 30 = .ok (.iconst 0, 1) := by decide +kernel
theorem dX3_emptyLike_31 : decode cX3_emptyLike 31 = .ok (.putfield 24, 3) := by decide +kernel
theorem dX3_emptyLike_34 : decode cX3_emptyLike 34 = .ok (.aload_n 0, 1) := by decide +kernel
theorem dX3_emptyLike_35 : decode cX3_emptyLike 35 = .ok (.iconst 0, 1) := by decide +kernel
theorem dX3_emptyLike_36 : decode cX3_emptyLike 36 = .ok (.putfield 28, 3) := by decide +kernel
theorem dX3_emptyLike_39 : decode cX3_emptyLike 39 = .ok (.aload_n 0, 1) := by decide +kernel
theorem dX3_emptyLike_40 : decode cX3_emptyLike 40 = .ok (.bipush (-6), 2) := by decide +kernel
theorem dX3_emptyLike_42 : decode cX3_emptyLike 42 = .ok (.putfield 31, 3) := by decide +kernel
theorem dX3_emptyLike_45 : decode cX3_emptyLike 45 = .ok (.aload_n 0, 1) := by decide +kernel
theorem dX3_emptyLike_46 : decode cX3_emptyLike 46 = .ok (.iconst 0, 1) := by decide +kernel
theorem dX3_emptyLike_47 : decode cX3_emptyLike 47 = .ok (.putfield 34, 3) := by decide +kernel
theorem dX3_emptyLike_50 : decode cX3_emptyLike 50 = .ok (.aload_n 0, 1) := by decide +kernel
theorem dX3_emptyLike_51 : decode cX3_emptyLike 51 = .ok (.iconst 0, 1) := by decide +kernel
theorem dX3_emptyLike_52 : decode cX3_emptyLike 52 = .ok (.putfield 37, 3) := by decide +kernel
theorem dX3_emptyLike_55 : decode cX3_emptyLike 55 = .ok (.aload_n 0, 1) := by decide +kernel
theorem dX3_emptyLike_56 : decode cX3_emptyLike 56 = .ok (.iconst 0, 1) := by decide +kernel
theorem dX3_emptyLike_57 : decode cX3_emptyLike 57 = .ok (.putfield 40, 3) := by decide +kernel
theorem dX3_emptyLike_60 : decode cX3_emptyLike 60 = .ok (.aload_n 0, 1) := by decide +kernel
theorem dX3_emptyLike_61 : decode cX3_emptyLike 61 = .ok (.iconst 0, 1) := by decide +kernel
theorem dX3_emptyLike_62 : decode cX3_emptyLike 62 = .ok (.putfield 43, 3) := by decide +kernel
theorem dX3_emptyLike_65 : decode cX3_emptyLike 65 = .ok (.aload_n 0, 1) := by decide +kernel
theorem dX3_emptyLike_66 : decode cX3_emptyLike 66 = .ok (.bipush (-6), 2) := by decide +kernel
theorem dX3_emptyLike_68 : decode cX3_emptyLike 68 = .ok (.putfield 46, 3) := by decide +kernel
theorem dX3_emptyLike_71 : decode cX3_emptyLike 71 = .ok (.aload_n 0, 1) := by decide +kernel
theorem dX3_emptyLike_72 : decode cX3_emptyLike 72 = .ok (.iconst 0, 1) := by decide +kernel
theorem dX3_emptyLike_73 : decode cX3_emptyLike 73 = .ok (.putfield 49, 3) := by decide +kernel
theorem dX3_emptyLike_76 : decode cX3_emptyLike 76 = .ok (.return_, 1) := by decide +kernel
theorem dX3_isCalled_0 : decode cX3_isCalled 0 = .ok (.aload_n 0, 1) := by decide +kernel
theorem dX3_isCalled_1 : decode cX3_isCalled 1 = .ok (.getfield 21, 3) := by decide +kernel
theorem dX3_isCalled_4 : decode cX3_isCalled 4 = .ok (.iconst (-1), 1) := by decide +kernel
theorem dX3_isCalled_5 : decode cX3_isCalled 5 = .ok (.if_icmp .eq 7, 3) := by decide +kernel
theorem dX3_isCalled_8 : decode cX3_isCalled 8 = .ok (.iconst 1, 1) := by decide +kernel
theorem dX3_isCalled_9 : decode cX3_isCalled 9 = .ok (.goto 4, 3) := by decide +kernel
theorem dX3_isCalled_12 : decode cX3_isCalled 12 = .ok (.iconst 0, 1) := by decide +kernel
theorem dX3_isCalled_13 : decode cX3_isCalled 13 = .ok (.ireturn, 1) := by decide +kernel
theorem dX3_noteTaken_0 : decode cX3_noteTaken 0 = .ok (.aload_n 0, 1) := by decide +kernel
theorem dX3_noteTaken_1 : decode cX3_noteTaken 1 = .ok (.dup, 1) := by decide +kernel
theorem dX3_noteTaken_2 : decode cX3_noteTaken 2 = .ok (.getfield 28, 3) := by decide +kernel
theorem dX3_noteTaken_5 : decode cX3_noteTaken 5 = .ok (.iconst 1, 1) := by decide +kernel
theorem dX3_noteTaken_6 : decode cX3_noteTaken 6 = .ok (.isub, 1) := by decide +kernel
theorem dX3_noteTaken_7 : decode cX3_noteTaken 7 = .ok (.putfield 28, 3) := by decide +kernel
theorem dX3_noteTaken_10 : decode cX3_noteTaken 10 = .ok (.aload_n 0, 1) := by decide +kernel
theorem dX3_noteTaken_11 : decode cX3_noteTaken 11 = .ok (.dup, 1) := by decide +kernel
theorem dX3_noteTaken_12 : decode cX3_noteTaken 12 = .ok (.getfield 37, 3) := by decide +kernel
theorem dX3_noteTaken_15 : decode cX3_noteTaken 15 = .ok (.iconst 1, 1) := by decide +kernel
theorem dX3_noteTaken_16 : decode cX3_noteTaken 16 = .ok (.iadd, 1) := by decide +kernel
theorem dX3_noteTaken_17 : decode cX3_noteTaken 17 = .ok (.putfield 37, 3) := by decide +kernel
theorem dX3_noteTaken_20 : decode cX3_noteTaken 20 = .ok (.aload_n 0, 1) := by decide +kernel
theorem dX3_noteTaken_21 : decode cX3_noteTaken 21 = .ok (.dup, 1) := by decide +kernel
theorem dX3_noteTaken_22 : decode cX3_noteTaken 22 = .ok (.getfield 49, 3) := by decide +kernel
theorem dX3_noteTaken_25 : decode cX3_noteTaken 25 = .ok (.iconst 1, 1) := by decide +kernel
theorem dX3_noteTaken_26 : decode cX3_noteTaken 26 = .ok (.iadd, 1) := by decide +kernel
theorem dX3_noteTaken_27 : decode cX3_noteTaken 27 = .ok (.putfield 49, 3) := by decide +kernel
theorem dX3_noteTaken_30 : decode cX3_noteTaken 30 = .ok (.aload_n 0, 1) := by decide +kernel
theorem dX3_noteTaken_31 : decode cX3_noteTaken 31 = .ok (.dup, 1) := by decide +kernel
theorem dX3_noteTaken_32 : decode cX3_noteTaken 32 = .ok (.getfield 43, 3) := by decide +kernel
theorem dX3_noteTaken_35 : decode cX3_noteTaken 35 = .ok (.iload_n 1, 1) := by decide +kernel
theorem dX3_noteTaken_36 : decode cX3_noteTaken 36 = .ok (.iadd, 1) := by decide +kernel
theorem dX3_noteTaken_37 : decode cX3_noteTaken 37 = .ok (.putfield 43, 3) := by decide +kernel
theorem dX3_noteTaken_40 : decode cX3_noteTaken 40 = .ok (.aload_n 0, 1) := by decide +kernel
theorem dX3_noteTaken_41 : decode cX3_noteTaken 41 = .ok (.aload_n 0, 1) := by decide +kernel
theorem dX3_noteTaken_42 : decode cX3_noteTaken 42 = .ok (.getfield 46, 3) := by decide +kernel
theorem dX3_noteTaken_45 : decode cX3_noteTaken 45 = .ok (.iload_n 1, 1) := by decide +kernel
theorem dX3_noteTaken_46 : decode cX3_noteTaken 46 = .ok (.invokestatic 52, 3) := by decide +kernel
theorem dX3_noteTaken_49 : decode cX3_noteTaken 49 = .ok (.putfield 46, 3) := by decide +kernel
theorem dX3_noteTaken_52 : decode cX3_noteTaken 52 = .ok (.return_, 1) := by decide +kernel
theorem dX3_becomeIdle_0 : decode cX3_becomeIdle 0 = .ok (.iload_n 1, 1) := by decide +kernel
theorem dX3_becomeIdle_1 : decode cX3_becomeIdle 1 = .ok (.ifCond .eq 34, 3) := by decide +kernel
theorem dX3_becomeIdle_4 : decode cX3_becomeIdle 4 = .ok (.aload_n 0, 1) := by decide +kernel
theorem dX3_becomeIdle_5 : decode cX3_becomeIdle 5 = .ok (.getfield 49, 3) := by decide +kernel
theorem dX3_becomeIdle_8 : decode cX3_becomeIdle 8 = .ok (.iconst 2, 1) := by decide +kernel
theorem dX3_becomeIdle_9 : decode cX3_becomeIdle 9 = .ok (.aload_n 0, 1) := by decide +kernel
theorem dX3_becomeIdle_10 : decode cX3_becomeIdle 10 = .ok (.getfield 18, 3) := by decide +kernel
theorem dX3_becomeIdle_13 : decode cX3_becomeIdle 13 = .ok (.imul, 1) := by decide +kernel
theorem dX3_becomeIdle_14 : decode cX3_becomeIdle 14 = .ok (.if_icmp .le 21, 3) := by decide +kernel
theorem dX3_becomeIdle_17 : decode cX3_becomeIdle 17 = .ok (.aload_n 0, 1) := by decide +kernel
theorem dX3_becomeIdle_18 : decode cX3_becomeIdle 18 = .ok (.iconst 2, 1) := by decide +kernel
theorem dX3_becomeIdle_19 : decode cX3_becomeIdle 19 = .ok (.aload_n 0, 1) := by decide +kernel
theorem dX3_becomeIdle_20 : decode cX3_becomeIdle 20 = .ok (.getfield 18, 3) := by decide +kernel
theorem dX3_becomeIdle_23 : decode cX3_becomeIdle 23 = .ok (.imul, 1) := by decide +kernel
theorem dX3_becomeIdle_24 : decode cX3_becomeIdle 24 = .ok (.bipush 32, 2) := by decide +kernel
theorem dX3_becomeIdle_26 : decode cX3_becomeIdle 26 = .ok (.invokestatic 58, 3) := by decide +kernel
theorem dX3_becomeIdle_29 : decode cX3_becomeIdle 29 = .ok (.putfield 18, 3) := by decide +kernel
theorem dX3_becomeIdle_32 : decode cX3_becomeIdle 32 = .ok (.goto 34, 3) := by decide +kernel
theorem dX3_becomeIdle_35 : decode cX3_becomeIdle 35 = .ok (.iload_n 1, 1) := by decide +kernel
theorem dX3_becomeIdle_36 : decode cX3_becomeIdle 36 = .ok (.ifCond .eq 30, 3) := by decide +kernel
theorem dX3_becomeIdle_39 : decode cX3_becomeIdle 39 = .ok (.iconst 2, 1) := by decide +kernel
theorem dX3_becomeIdle_40 : decode cX3_becomeIdle 40 = .ok (.aload_n 0, 1) := by decide +kernel
theorem dX3_becomeIdle_41 : decode cX3_becomeIdle 41 = .ok (.getfield 49, 3) := by decide +kernel
theorem dX3_becomeIdle_44 : decode cX3_becomeIdle 44 = .ok (.imul, 1) := by decide +kernel
theorem dX3_becomeIdle_45 : decode cX3_becomeIdle 45 = .ok (.aload_n 0, 1) := by decide +kernel
theorem dX3_becomeIdle_46 : decode cX3_becomeIdle 46 = .ok (.getfield 18, 3) := by decide +kernel
theorem dX3_becomeIdle_49 : decode cX3_becomeIdle 49 = .ok (.if_icmp .ge 17, 3) := by decide +kernel
theorem dX3_becomeIdle_52 : decode cX3_becomeIdle 52 = .ok (.aload_n 0, 1) := by decide +kernel
theorem dX3_becomeIdle_53 : decode cX3_becomeIdle 53 = .ok (.aload_n 0, 1) := by decide +kernel
theorem dX3_becomeIdle_54 : decode cX3_becomeIdle 54 = .ok (.getfield 18, 3) := by decide +kernel
theorem dX3_becomeIdle_57 : decode cX3_becomeIdle 57 = .ok (.iconst 2, 1) := by decide +kernel
theorem dX3_becomeIdle_58 : decode cX3_becomeIdle 58 = .ok (.idiv, 1) := by decide +kernel
theorem dX3_becomeIdle_59 : decode cX3_becomeIdle 59 = .ok (.iconst 1, 1) := by decide +kernel
theorem dX3_becomeIdle_60 : decode cX3_becomeIdle 60 = .ok (.invokestatic 52, 3) := by decide +kernel
theorem dX3_becomeIdle_63 : decode cX3_becomeIdle 63 = .ok (.putfield 18, 3) := by decide +kernel
theorem dX3_becomeIdle_66 : decode cX3_becomeIdle 66 = .ok (.aload_n 0, 1) := by decide +kernel
theorem dX3_becomeIdle_67 : decode cX3_becomeIdle 67 = .ok (.iconst 0, 1) := by decide +kernel
theorem dX3_becomeIdle_68 : decode cX3_becomeIdle 68 = .ok (.putfield 49, 3) := by decide +kernel
theorem dX3_becomeIdle_71 : decode cX3_becomeIdle 71 = .ok (.return_, 1) := by decide +kernel
theorem dX3_fact_0 : decode cX3_fact 0 = .ok (.iload_n 1, 1) := by decide +kernel
theorem dX3_fact_1 : decode cX3_fact 1 = .ok (.tableswitch 148 0 12 #[67, 72, 77, 82, 87, 100, 113, 118, 123, 128, 133, 138, 143], 67) := by decide +kernel
theorem dX3_fact_68 : decode cX3_fact 68 = .ok (.aload_n 0, 1) := by decide +kernel
theorem dX3_fact_69 : decode cX3_fact 69 = .ok (.getfield 9, 3) := by decide +kernel
theorem dX3_fact_72 : decode cX3_fact 72 = .ok (.ireturn, 1) := by decide +kernel
theorem dX3_fact_73 : decode cX3_fact 73 = .ok (.aload_n 0, 1) := by decide +kernel
theorem dX3_fact_74 : decode cX3_fact 74 = .ok (.getfield 15, 3) := by decide +kernel
theorem dX3_fact_77 : decode cX3_fact 77 = .ok (.ireturn, 1) := by decide +kernel
theorem dX3_fact_78 : decode cX3_fact 78 = .ok (.aload_n 0, 1) := by decide +kernel
theorem dX3_fact_79 : decode cX3_fact 79 = .ok (.getfield 18, 3) := by decide +kernel
theorem dX3_fact_82 : decode cX3_fact 82 = .ok (.ireturn, 1) := by decide +kernel
theorem dX3_fact_83 : decode cX3_fact 83 = .ok (.aload_n 0, 1) := by decide +kernel
theorem dX3_fact_84 : decode cX3_fact 84 = .ok (.getfield 28, 3) := by decide +kernel
theorem dX3_fact_87 : decode cX3_fact 87 = .ok (.ireturn, 1) := by decide +kernel
theorem dX3_fact_88 : decode cX3_fact 88 = .ok (.aload_n 0, 1) := by decide +kernel
theorem dX3_fact_89 : decode cX3_fact 89 = .ok (.invokevirtual 61, 3) := by decide +kernel
theorem dX3_fact_92 : decode cX3_fact 92 = .ok (.ifCond .eq 7, 3) := by decide +kernel
theorem dX3_fact_95 : decode cX3_fact 95 = .ok (.iconst 1, 1) := by decide +kernel
theorem dX3_fact_96 : decode cX3_fact 96 = .ok (.goto 4, 3) := by decide +kernel
theorem dX3_fact_99 : decode cX3_fact 99 = .ok (.iconst 0, 1) := by decide +kernel
theorem dX3_fact_100 : decode cX3_fact 100 = .ok (.ireturn, 1) := by decide +kernel
theorem dX3_fact_101 : decode cX3_fact 101 = .ok (.aload_n 0, 1) := by decide +kernel
theorem dX3_fact_102 : decode cX3_fact 102 = .ok (.getfield 24, 3) := by decide +kernel
theorem dX3_fact_105 : decode cX3_fact 105 = .ok (.ifCond .eq 7, 3) := by decide +kernel
theorem dX3_fact_108 : decode cX3_fact 108 = .ok (.iconst 1, 1) := by decide +kernel
theorem dX3_fact_109 : decode cX3_fact 109 = .ok (.goto 4, 3) := by decide +kernel
theorem dX3_fact_112 : decode cX3_fact 112 = .ok (.iconst 0, 1) := by decide +kernel
theorem dX3_fact_113 : decode cX3_fact 113 = .ok (.ireturn, 1) := by decide +kernel
theorem dX3_fact_114 : decode cX3_fact 114 = .ok (.aload_n 0, 1) := by decide +kernel
theorem dX3_fact_115 : decode cX3_fact 115 = .ok (.getfield 34, 3) := by decide +kernel
theorem dX3_fact_118 : decode cX3_fact 118 = .ok (.ireturn, 1) := by decide +kernel
theorem dX3_fact_119 : decode cX3_fact 119 = .ok (.aload_n 0, 1) := by decide +kernel
theorem dX3_fact_120 : decode cX3_fact 120 = .ok (.getfield 37, 3) := by decide +kernel
theorem dX3_fact_123 : decode cX3_fact 123 = .ok (.ireturn, 1) := by decide +kernel
theorem dX3_fact_124 : decode cX3_fact 124 = .ok (.aload_n 0, 1) := by decide +kernel
theorem dX3_fact_125 : decode cX3_fact 125 = .ok (.getfield 40, 3) := by decide +kernel
theorem dX3_fact_128 : decode cX3_fact 128 = .ok (.ireturn, 1) := by decide +kernel
theorem dX3_fact_129 : decode cX3_fact 129 = .ok (.aload_n 0, 1) := by decide +kernel
theorem dX3_fact_130 : decode cX3_fact 130 = .ok (.getfield 43, 3) := by decide +kernel
theorem dX3_fact_133 : decode cX3_fact 133 = .ok (.ireturn, 1) := by decide +kernel
theorem dX3_fact_134 : decode cX3_fact 134 = .ok (.aload_n 0, 1) := by decide +kernel
theorem dX3_fact_135 : decode cX3_fact 135 = .ok (.getfield 46, 3) := by decide +kernel
theorem dX3_fact_138 : decode cX3_fact 138 = .ok (.ireturn, 1) := by decide +kernel
theorem dX3_fact_139 : decode cX3_fact 139 = .ok (.aload_n 0, 1) := by decide +kernel
theorem dX3_fact_140 : decode cX3_fact 140 = .ok (.getfield 49, 3) := by decide +kernel
theorem dX3_fact_143 : decode cX3_fact 143 = .ok (.ireturn, 1) := by decide +kernel
theorem dX3_fact_144 : decode cX3_fact 144 = .ok (.aload_n 0, 1) := by decide +kernel
theorem dX3_fact_145 : decode cX3_fact 145 = .ok (.getfield 31, 3) := by decide +kernel
theorem dX3_fact_148 : decode cX3_fact 148 = .ok (.ireturn, 1) := by decide +kernel
theorem dX3_fact_149 : decode cX3_fact 149 = .ok (.bipush (-2), 2) := by decide +kernel
theorem dX3_fact_151 : decode cX3_fact 151 = .ok (.ireturn, 1) := by decide +kernel
theorem dX4_init_0 : decode cX4_init 0 = .ok (.aload_n 0, 1) := by decide +kernel
theorem dX4_init_1 : decode cX4_init 1 = .ok (.invokespecial 1, 3) := by decide +kernel
theorem dX4_init_4 : decode cX4_init 4 = .ok (.aload_n 0, 1) := by decide +kernel
theorem dX4_init_5 : decode cX4_init 5 = .ok (.new 7, 3) := by decide +kernel
theorem dX4_init_8 : decode cX4_init 8 = .ok (.dup, 1) := by decide +kernel
theorem dX4_init_9 : decode cX4_init 9 = .ok (.invokespecial 9, 3) := by decide +kernel
theorem dX4_init_12 : decode cX4_init 12 = .ok (.putfield 10, 3) := by decide +kernel
theorem dX4_init_15 : decode cX4_init 15 = .ok (.aload_n 0, 1) := by decide +kernel
theorem dX4_init_16 : decode cX4_init 16 = .ok (.new 7, 3) := by decide +kernel
theorem dX4_init_19 : decode cX4_init 19 = .ok (.dup, 1) := by decide +kernel
theorem dX4_init_20 : decode cX4_init 20 = .ok (.invokespecial 9, 3) := by decide +kernel
theorem dX4_init_23 : decode cX4_init 23 = .ok (.putfield 16, 3) := by decide +kernel
theorem dX4_init_26 : decode cX4_init 26 = .ok (.aload_n 0, 1) := by decide +kernel
theorem dX4_init_27 : decode cX4_init 27 = .ok (.iconst 2, 1) := by decide +kernel
theorem dX4_init_28 : decode cX4_init 28 = .ok (.anewarray 7, 3) := by decide +kernel
theorem dX4_init_31 : decode cX4_init 31 = .ok (.putfield 19, 3) := by decide +kernel
theorem dX4_init_34 : decode cX4_init 34 = .ok (.aload_n 0, 1) := by decide +kernel
theorem dX4_init_35 : decode cX4_init 35 = .ok (.iconst 2, 1) := by decide +kernel
theorem dX4_init_36 : decode cX4_init 36 = .ok (.newarray .boolean, 2) := by decide +kernel
theorem dX4_init_38 : decode cX4_init 38 = .ok (.putfield 23, 3) := by decide +kernel
theorem dX4_init_41 : decode cX4_init 41 = .ok (.aload_n 0, 1) := by decide +kernel
theorem dX4_init_42 : decode cX4_init 42 = .ok (.new 27, 3) := by decide +kernel
theorem dX4_init_45 : decode cX4_init 45 = .ok (.dup, 1) := by decide +kernel
theorem dX4_init_46 : decode cX4_init 46 = .ok (.invokespecial 29, 3) := by decide +kernel
theorem dX4_init_49 : decode cX4_init 49 = .ok (.putfield 30, 3) := by decide +kernel
theorem dX4_init_52 : decode cX4_init 52 = .ok (.aload_n 0, 1) := by decide +kernel
theorem dX4_init_53 : decode cX4_init 53 = .ok (.new 34, 3) := by decide +kernel
theorem dX4_init_56 : decode cX4_init 56 = .ok (.dup, 1) := by decide +kernel
theorem dX4_init_57 : decode cX4_init 57 = .ok (.invokespecial 36, 3) := by decide +kernel
theorem dX4_init_60 : decode cX4_init 60 = .ok (.putfield 37, 3) := by decide +kernel
theorem dX4_init_63 : decode cX4_init 63 = .ok (.iconst 0, 1) := by decide +kernel
theorem dX4_init_64 : decode cX4_init 64 = .ok (.istore_n 1, 1) := by decide +kernel
theorem dX4_init_65 : decode cX4_init 65 = .ok (.iload_n 1, 1) := by decide +kernel
theorem dX4_init_66 : decode cX4_init 66 = .ok (.iconst 2, 1) := by decide +kernel
theorem dX4_init_67 : decode cX4_init 67 = .ok (.if_icmp .ge 22, 3) := by decide +kernel
theorem dX4_init_70 : decode cX4_init 70 = .ok (.aload_n 0, 1) := by decide +kernel
theorem dX4_init_71 : decode cX4_init 71 = .ok (.getfield 19, 3) := by decide +kernel
theorem dX4_init_74 : decode cX4_init 74 = .ok (.iload_n 1, 1) := by decide +kernel
theorem dX4_init_75 : decode cX4_init 75 = .ok (.new 7, 3) := by decide +kernel
end
section
theorem dX4_init_78 : decode cX4_init 78 = .ok (.dup, 1) := by decide +kernel
theorem dX4_init_79 : decode cX4_init 79 = .ok (.invokespecial 9, 3) := by decide +kernel
theorem dX4_init_82 : decode cX4_init 82 = .ok (.aastore, 1) := by decide +kernel
theorem dX4_init_83 : decode cX4_init 83 = .ok (.iinc 1 1, 3) := by decide +kernel
theorem dX4_init_86 : decode cX4_init 86 = .ok (.goto (-21), 3) := by decide +kernel
theorem dX4_init_89 : decode cX4_init 89 = .ok (.return_, 1) := by decide +kernel
theorem dX4_set_0 : decode cX4_set 0 = .ok (.aload_n 0, 1) := by decide +kernel
theorem dX4_set_1 : decode cX4_set 1 = .ok (.getfield 30, 3) := by decide +kernel
theorem dX4_set_4 : decode cX4_set 4 = .ok (.aload_n 0, 1) := by decide +kernel
theorem dX4_set_5 : decode cX4_set 5 = .ok (.getfield 10, 3) := by decide +kernel
theorem dX4_set_8 : decode cX4_set 8 = .ok (.invokevirtual 41, 3) := by decide +kernel
theorem dX4_set_11 : decode cX4_set 11 = .ok (.aload_n 0, 1) := by decide +kernel
theorem dX4_set_12 : decode cX4_set 12 = .ok (.getfield 30, 3) := by decide +kernel
theorem dX4_set_15 : decode cX4_set 15 = .ok (.aload_n 0, 1) := by decide +kernel
theorem dX4_set_16 : decode cX4_set 16 = .ok (.getfield 10, 3) := by decide +kernel
theorem dX4_set_19 : decode cX4_set 19 = .ok (.iload_n 1, 1) := by decide +kernel
theorem dX4_set_20 : decode cX4_set 20 = .ok (.iload_n 2, 1) := by decide +kernel
theorem dX4_set_21 : decode cX4_set 21 = .ok (.invokevirtual 45, 3) := by decide +kernel
theorem dX4_set_24 : decode cX4_set 24 = .ok (.invokevirtual 49, 3) := by decide +kernel
theorem dX4_set_27 : decode cX4_set 27 = .ok (.ireturn, 1) := by decide +kernel
theorem dX4_bounds_0 : decode cX4_bounds 0 = .ok (.aload_n 0, 1) := by decide +kernel
theorem dX4_bounds_1 : decode cX4_bounds 1 = .ok (.getfield 30, 3) := by decide +kernel
theorem dX4_bounds_4 : decode cX4_bounds 4 = .ok (.aload_n 0, 1) := by decide +kernel
theorem dX4_bounds_5 : decode cX4_bounds 5 = .ok (.getfield 10, 3) := by decide +kernel
theorem dX4_bounds_8 : decode cX4_bounds 8 = .ok (.invokevirtual 41, 3) := by decide +kernel
theorem dX4_bounds_11 : decode cX4_bounds 11 = .ok (.aload_n 0, 1) := by decide +kernel
theorem dX4_bounds_12 : decode cX4_bounds 12 = .ok (.getfield 30, 3) := by decide +kernel
theorem dX4_bounds_15 : decode cX4_bounds 15 = .ok (.aload_n 0, 1) := by decide +kernel
theorem dX4_bounds_16 : decode cX4_bounds 16 = .ok (.getfield 10, 3) := by decide +kernel
theorem dX4_bounds_19 : decode cX4_bounds 19 = .ok (.iload_n 1, 1) := by decide +kernel
theorem dX4_bounds_20 : decode cX4_bounds 20 = .ok (.iload_n 2, 1) := by decide +kernel
theorem dX4_bounds_21 : decode cX4_bounds 21 = .ok (.iload_n 3, 1) := by decide +kernel
theorem dX4_bounds_22 : decode cX4_bounds 22 = .ok (.invokevirtual 53, 3) := by decide +kernel
theorem dX4_bounds_25 : decode cX4_bounds 25 = .ok (.invokevirtual 49, 3) := by decide +kernel
theorem dX4_bounds_28 : decode cX4_bounds 28 = .ok (.ireturn, 1) := by decide +kernel
theorem dX4_come_0 : decode cX4_come 0 = .ok (.aload_n 0, 1) := by decide +kernel
theorem dX4_come_1 : decode cX4_come 1 = .ok (.getfield 30, 3) := by decide +kernel
theorem dX4_come_4 : decode cX4_come 4 = .ok (.aload_n 0, 1) := by decide +kernel
theorem dX4_come_5 : decode cX4_come 5 = .ok (.getfield 10, 3) := by decide +kernel
theorem dX4_come_8 : decode cX4_come 8 = .ok (.invokevirtual 41, 3) := by decide +kernel
theorem dX4_come_11 : decode cX4_come 11 = .ok (.aload_n 0, 1) := by decide +kernel
theorem dX4_come_12 : decode cX4_come 12 = .ok (.getfield 30, 3) := by decide +kernel
theorem dX4_come_15 : decode cX4_come 15 = .ok (.aload_n 0, 1) := by decide +kernel
theorem dX4_come_16 : decode cX4_come 16 = .ok (.getfield 10, 3) := by decide +kernel
theorem dX4_come_19 : decode cX4_come 19 = .ok (.iload_n 1, 1) := by decide +kernel
theorem dX4_come_20 : decode cX4_come 20 = .ok (.invokevirtual 57, 3) := by decide +kernel
theorem dX4_come_23 : decode cX4_come 23 = .ok (.invokevirtual 49, 3) := by decide +kernel
theorem dX4_come_26 : decode cX4_come 26 = .ok (.ireturn, 1) := by decide +kernel
theorem dX4_mask_0 : decode cX4_mask 0 = .ok (.aload_n 0, 1) := by decide +kernel
theorem dX4_mask_1 : decode cX4_mask 1 = .ok (.getfield 30, 3) := by decide +kernel
theorem dX4_mask_4 : decode cX4_mask 4 = .ok (.aload_n 0, 1) := by decide +kernel
theorem dX4_mask_5 : decode cX4_mask 5 = .ok (.getfield 10, 3) := by decide +kernel
theorem dX4_mask_8 : decode cX4_mask 8 = .ok (.invokevirtual 41, 3) := by decide +kernel
theorem dX4_mask_11 : decode cX4_mask 11 = .ok (.aload_n 0, 1) := by decide +kernel
theorem dX4_mask_12 : decode cX4_mask 12 = .ok (.getfield 30, 3) := by decide +kernel
theorem dX4_mask_15 : decode cX4_mask 15 = .ok (.aload_n 0, 1) := by decide +kernel
theorem dX4_mask_16 : decode cX4_mask 16 = .ok (.getfield 10, 3) := by decide +kernel
theorem dX4_mask_19 : decode cX4_mask 19 = .ok (.iload_n 1, 1) := by decide +kernel
theorem dX4_mask_20 : decode cX4_mask 20 = .ok (.invokevirtual 60, 3) := by decide +kernel
theorem dX4_mask_23 : decode cX4_mask 23 = .ok (.invokevirtual 49, 3) := by decide +kernel
theorem dX4_mask_26 : decode cX4_mask 26 = .ok (.ireturn, 1) := by decide +kernel
theorem dX4_call_0 : decode cX4_call 0 = .ok (.aload_n 0, 1) := by decide +kernel
theorem dX4_call_1 : decode cX4_call 1 = .ok (.getfield 30, 3) := by decide +kernel
theorem dX4_call_4 : decode cX4_call 4 = .ok (.aload_n 0, 1) := by decide +kernel
theorem dX4_call_5 : decode cX4_call 5 = .ok (.getfield 10, 3) := by decide +kernel
theorem dX4_call_8 : decode cX4_call 8 = .ok (.invokevirtual 41, 3) := by decide +kernel
theorem dX4_call_11 : decode cX4_call 11 = .ok (.aload_n 0, 1) := by decide +kernel
theorem dX4_call_12 : decode cX4_call 12 = .ok (.getfield 30, 3) := by decide +kernel
theorem dX4_call_15 : decode cX4_call 15 = .ok (.aload_n 0, 1) := by decide +kernel
theorem dX4_call_16 : decode cX4_call 16 = .ok (.getfield 10, 3) := by decide +kernel
theorem dX4_call_19 : decode cX4_call 19 = .ok (.iload_n 1, 1) := by decide +kernel
theorem dX4_call_20 : decode cX4_call 20 = .ok (.invokevirtual 63, 3) := by decide +kernel
theorem dX4_call_23 : decode cX4_call 23 = .ok (.invokevirtual 49, 3) := by decide +kernel
theorem dX4_call_26 : decode cX4_call 26 = .ok (.ireturn, 1) := by decide +kernel
theorem dX4_pass_0 : decode cX4_pass 0 = .ok (.aload_n 0, 1) := by decide +kernel
theorem dX4_pass_1 : decode cX4_pass 1 = .ok (.getfield 30, 3) := by decide +kernel
theorem dX4_pass_4 : decode cX4_pass 4 = .ok (.aload_n 0, 1) := by decide +kernel
theorem dX4_pass_5 : decode cX4_pass 5 = .ok (.getfield 10, 3) := by decide +kernel
theorem dX4_pass_8 : decode cX4_pass 8 = .ok (.invokevirtual 41, 3) := by decide +kernel
theorem dX4_pass_11 : decode cX4_pass 11 = .ok (.aload_n 0, 1) := by decide +kernel
theorem dX4_pass_12 : decode cX4_pass 12 = .ok (.getfield 30, 3) := by decide +kernel
theorem dX4_pass_15 : decode cX4_pass 15 = .ok (.aload_n 0, 1) := by decide +kernel
theorem dX4_pass_16 : decode cX4_pass 16 = .ok (.getfield 10, 3) := by decide +kernel
theorem dX4_pass_19 : decode cX4_pass 19 = .ok (.iload_n 1, 1) := by decide +kernel
theorem dX4_pass_20 : decode cX4_pass 20 = .ok (.invokevirtual 66, 3) := by decide +kernel
theorem dX4_pass_23 : decode cX4_pass 23 = .ok (.invokevirtual 49, 3) := by decide +kernel
theorem dX4_pass_26 : decode cX4_pass 26 = .ok (.ireturn, 1) := by decide +kernel
theorem dX4_of_0 : decode cX4_of 0 = .ok (.iload_n 1, 1) := by decide +kernel
theorem dX4_of_1 : decode cX4_of 1 = .ok (.invokestatic 69, 3) := by decide +kernel
theorem dX4_of_4 : decode cX4_of 4 = .ok (.ifCond .ne 5, 3) := by decide +kernel
theorem dX4_of_7 : decode cX4_of 7 = .ok (.iconst (-1), 1) := by decide +kernel
theorem dX4_of_8 : decode cX4_of 8 = .ok (.ireturn, 1) := by decide +kernel
theorem dX4_of_9 : decode cX4_of 9 = .ok (.aload_n 0, 1) := by decide +kernel
theorem dX4_of_10 : decode cX4_of 10 = .ok (.getfield 10, 3) := by decide +kernel
theorem dX4_of_13 : decode cX4_of 13 = .ok (.getfield 73, 3) := by decide +kernel
theorem dX4_of_16 : decode cX4_of 16 = .ok (.iload_n 1, 1) := by decide +kernel
theorem dX4_of_17 : decode cX4_of 17 = .ok (.aaload, 1) := by decide +kernel
theorem dX4_of_18 : decode cX4_of 18 = .ok (.iload_n 2, 1) := by decide +kernel
theorem dX4_of_19 : decode cX4_of 19 = .ok (.invokevirtual 77, 3) := by decide +kernel
theorem dX4_of_22 : decode cX4_of 22 = .ok (.ireturn, 1) := by decide +kernel
theorem dX4_frame_0 : decode cX4_frame 0 = .ok (.aload_n 0, 1) := by decide +kernel
theorem dX4_frame_1 : decode cX4_frame 1 = .ok (.getfield 10, 3) := by decide +kernel
theorem dX4_frame_4 : decode cX4_frame 4 = .ok (.iload_n 1, 1) := by decide +kernel
theorem dX4_frame_5 : decode cX4_frame 5 = .ok (.invokevirtual 82, 3) := by decide +kernel
theorem dX4_frame_8 : decode cX4_frame 8 = .ok (.ifCond .ne 5, 3) := by decide +kernel
theorem dX4_frame_11 : decode cX4_frame 11 = .ok (.iconst (-1), 1) := by decide +kernel
theorem dX4_frame_12 : decode cX4_frame 12 = .ok (.ireturn, 1) := by decide +kernel
theorem dX4_frame_13 : decode cX4_frame 13 = .ok (.aload_n 0, 1) := by decide +kernel
theorem dX4_frame_14 : decode cX4_frame 14 = .ok (.getfield 10, 3) := by decide +kernel
theorem dX4_frame_17 : decode cX4_frame 17 = .ok (.iload_n 1, 1) := by decide +kernel
theorem dX4_frame_18 : decode cX4_frame 18 = .ok (.iload_n 2, 1) := by decide +kernel
theorem dX4_frame_19 : decode cX4_frame 19 = .ok (.invokevirtual 85, 3) := by decide +kernel
theorem dX4_frame_22 : decode cX4_frame 22 = .ok (.ireturn, 1) := by decide +kernel
theorem dX4_row_0 : decode cX4_row 0 = .ok (.iload_n 1, 1) := by decide +kernel
theorem dX4_row_1 : decode cX4_row 1 = .ok (.ifCond .ge 5, 3) := by decide +kernel
theorem dX4_row_4 : decode cX4_row 4 = .ok (.iconst (-1), 1) := by decide +kernel
theorem dX4_row_5 : decode cX4_row 5 = .ok (.ireturn, 1) := by decide +kernel
theorem dX4_row_6 : decode cX4_row 6 = .ok (.aload_n 0, 1) := by decide +kernel
theorem dX4_row_7 : decode cX4_row 7 = .ok (.getfield 10, 3) := by decide +kernel
theorem dX4_row_10 : decode cX4_row 10 = .ok (.iload_n 1, 1) := by decide +kernel
theorem dX4_row_11 : decode cX4_row 11 = .ok (.invokevirtual 88, 3) := by decide +kernel
theorem dX4_row_14 : decode cX4_row 14 = .ok (.ireturn, 1) := by decide +kernel
theorem dX4_count_0 : decode cX4_count 0 = .ok (.iload_n 1, 1) := by decide +kernel
theorem dX4_count_1 : decode cX4_count 1 = .ok (.tableswitch 186 0 12 #[67, 75, 83, 92, 102, 112, 122, 130, 140, 150, 160, 170, 178], 67) := by decide +kernel
theorem dX4_count_68 : decode cX4_count 68 = .ok (.aload_n 0, 1) := by decide +kernel
theorem dX4_count_69 : decode cX4_count 69 = .ok (.getfield 10, 3) := by decide +kernel
theorem dX4_count_72 : decode cX4_count 72 = .ok (.getfield 91, 3) := by decide +kernel
theorem dX4_count_75 : decode cX4_count 75 = .ok (.ireturn, 1) := by decide +kernel
theorem dX4_count_76 : decode cX4_count 76 = .ok (.aload_n 0, 1) := by decide +kernel
theorem dX4_count_77 : decode cX4_count 77 = .ok (.getfield 10, 3) := by decide +kernel
theorem dX4_count_80 : decode cX4_count 80 = .ok (.getfield 95, 3) := by decide +kernel
theorem dX4_count_83 : decode cX4_count 83 = .ok (.ireturn, 1) := by decide +kernel
theorem dX4_count_84 : decode cX4_count 84 = .ok (.aload_n 0, 1) := by decide +kernel
theorem dX4_count_85 : decode cX4_count 85 = .ok (.getfield 10, 3) := by decide +kernel
theorem dX4_count_88 : decode cX4_count 88 = .ok (.iconst 3, 1) := by decide +kernel
theorem dX4_count_89 : decode cX4_count 89 = .ok (.invokevirtual 98, 3) := by decide +kernel
theorem dX4_count_92 : decode cX4_count 92 = .ok (.ireturn, 1) := by decide +kernel
theorem dX4_count_93 : decode cX4_count 93 = .ok (.aload_n 0, 1) := by decide +kernel
theorem dX4_count_94 : decode cX4_count 94 = .ok (.getfield 10, 3) := by decide +kernel
theorem dX4_count_97 : decode cX4_count 97 = .ok (.bipush 7, 2) := by decide +kernel
theorem dX4_count_99 : decode cX4_count 99 = .ok (.invokevirtual 98, 3) := by decide +kernel
theorem dX4_count_102 : decode cX4_count 102 = .ok (.ireturn, 1) := by decide +kernel
theorem dX4_count_103 : decode cX4_count 103 = .ok (.aload_n 0, 1) := by decide +kernel
theorem dX4_count_104 : decode cX4_count 104 = .ok (.getfield 10, 3) := by decide +kernel
theorem dX4_count_107 : decode cX4_count 107 = .ok (.bipush 8, 2) := by decide +kernel
theorem dX4_count_109 : decode cX4_count 109 = .ok (.invokevirtual 98, 3) := by decide +kernel
theorem dX4_count_112 : decode cX4_count 112 = .ok (.ireturn, 1) := by decide +kernel
theorem dX4_count_113 : decode cX4_count 113 = .ok (.aload_n 0, 1) := by decide +kernel
theorem dX4_count_114 : decode cX4_count 114 = .ok (.getfield 10, 3) := by decide +kernel
theorem dX4_count_117 : decode cX4_count 117 = .ok (.bipush 6, 2) := by decide +kernel
theorem dX4_count_119 : decode cX4_count 119 = .ok (.invokevirtual 98, 3) := by decide +kernel
theorem dX4_count_122 : decode cX4_count 122 = .ok (.ireturn, 1) := by decide +kernel
theorem dX4_count_123 : decode cX4_count 123 = .ok (.aload_n 0, 1) := by decide +kernel
theorem dX4_count_124 : decode cX4_count 124 = .ok (.getfield 10, 3) := by decide +kernel
theorem dX4_count_127 : decode cX4_count 127 = .ok (.invokevirtual 101, 3) := by decide +kernel
theorem dX4_count_130 : decode cX4_count 130 = .ok (.ireturn, 1) := by decide +kernel
theorem dX4_count_131 : decode cX4_count 131 = .ok (.aload_n 0, 1) := by decide +kernel
theorem dX4_count_132 : decode cX4_count 132 = .ok (.getfield 10, 3) := by decide +kernel
theorem dX4_count_135 : decode cX4_count 135 = .ok (.getfield 105, 3) := by decide +kernel
theorem dX4_count_138 : decode cX4_count 138 = .ok (.iconst 0, 1) := by decide +kernel
theorem dX4_count_139 : decode cX4_count 139 = .ok (.iaload, 1) := by decide +kernel
theorem dX4_count_140 : decode cX4_count 140 = .ok (.ireturn, 1) := by decide +kernel
theorem dX4_count_141 : decode cX4_count 141 = .ok (.aload_n 0, 1) := by decide +kernel
theorem dX4_count_142 : decode cX4_count 142 = .ok (.getfield 10, 3) := by decide +kernel
theorem dX4_count_145 : decode cX4_count 145 = .ok (.getfield 105, 3) := by decide +kernel
theorem dX4_count_148 : decode cX4_count 148 = .ok (.iconst 1, 1) := by decide +kernel
theorem dX4_count_149 : decode cX4_count 149 = .ok (.iaload, 1) := by decide +kernel
theorem dX4_count_150 : decode cX4_count 150 = .ok (.ireturn, 1) := by decide +kernel
theorem dX4_count_151 : decode cX4_count 151 = .ok (.aload_n 0, 1) := by decide +kernel
theorem dX4_count_152 : decode cX4_count 152 = .ok (.getfield 10, 3) := by decide +kernel
theorem dX4_count_155 : decode cX4_count 155 = .ok (.getfield 105, 3) := by decide +kernel
theorem dX4_count_158 : decode cX4_count 158 = .ok (.iconst 2, 1) := by decide +kernel
theorem dX4_count_159 : decode cX4_count 159 = .ok (.iaload, 1) := by decide +kernel
theorem dX4_count_160 : decode cX4_count 160 = .ok (.ireturn, 1) := by decide +kernel
theorem dX4_count_161 : decode cX4_count 161 = .ok (.aload_n 0, 1) := by decide +kernel
theorem dX4_count_162 : decode cX4_count 162 = .ok (.getfield 10, 3) := by decide +kernel
theorem dX4_count_165 : decode cX4_count 165 = .ok (.getfield 105, 3) := by decide +kernel
theorem dX4_count_168 : decode cX4_count 168 = .ok (.iconst 3, 1) := by decide +kernel
theorem dX4_count_169 : decode cX4_count 169 = .ok (.iaload, 1) := by decide +kernel
theorem dX4_count_170 : decode cX4_count 170 = .ok (.ireturn, 1) := by decide +kernel
theorem dX4_count_171 : decode cX4_count 171 = .ok (.aload_n 0, 1) := by decide +kernel
theorem dX4_count_172 : decode cX4_count 172 = .ok (.getfield 37, 3) := by decide +kernel
theorem dX4_count_175 : decode cX4_count 175 = .ok (.getfield 109, 3) := by decide +kernel
theorem dX4_count_178 : decode cX4_count 178 = .ok (.ireturn, 1) := by decide +kernel
theorem dX4_count_179 : decode cX4_count 179 = .ok (.aload_n 0, 1) := by decide +kernel
theorem dX4_count_180 : decode cX4_count 180 = .ok (.getfield 30, 3) := by decide +kernel
theorem dX4_count_183 : decode cX4_count 183 = .ok (.getfield 112, 3) := by decide +kernel
theorem dX4_count_186 : decode cX4_count 186 = .ok (.ireturn, 1) := by decide +kernel
theorem dX4_count_187 : decode cX4_count 187 = .ok (.bipush (-2), 2) := by decide +kernel
theorem dX4_count_189 : decode cX4_count 189 = .ok (.ireturn, 1) := by decide +kernel
theorem dX4_why_0 : decode cX4_why 0 = .ok (.iload_n 1, 1) := by decide +kernel
theorem dX4_why_1 : decode cX4_why 1 = .ok (.invokestatic 69, 3) := by decide +kernel
theorem dX4_why_4 : decode cX4_why 4 = .ok (.ifCond .ne 5, 3) := by decide +kernel
theorem dX4_why_7 : decode cX4_why 7 = .ok (.iconst (-1), 1) := by decide +kernel
theorem dX4_why_8 : decode cX4_why 8 = .ok (.ireturn, 1) := by decide +kernel
theorem dX4_why_9 : decode cX4_why 9 = .ok (.aload_n 0, 1) := by decide +kernel
theorem dX4_why_10 : decode cX4_why 10 = .ok (.getfield 10, 3) := by decide +kernel
theorem dX4_why_13 : decode cX4_why 13 = .ok (.aload_n 0, 1) := by decide +kernel
theorem dX4_why_14 : decode cX4_why 14 = .ok (.getfield 10, 3) := by decide +kernel
theorem dX4_why_17 : decode cX4_why 17 = .ok (.getfield 73, 3) := by decide +kernel
theorem dX4_why_20 : decode cX4_why 20 = .ok (.iload_n 1, 1) := by decide +kernel
theorem dX4_why_21 : decode cX4_why 21 = .ok (.aaload, 1) := by decide +kernel
theorem dX4_why_22 : decode cX4_why 22 = .ok (.invokevirtual 115, 3) := by decide +kernel
theorem dX4_why_25 : decode cX4_why 25 = .ok (.ireturn, 1) := by decide +kernel
theorem dX4_takenIn_0 : decode cX4_takenIn 0 = .ok (.aload_n 0, 1) := by decide +kernel
theorem dX4_takenIn_1 : decode cX4_takenIn 1 = .ok (.getfield 10, 3) := by decide +kernel
theorem dX4_takenIn_4 : decode cX4_takenIn 4 = .ok (.iload_n 1, 1) := by decide +kernel
theorem dX4_takenIn_5 : decode cX4_takenIn 5 = .ok (.invokevirtual 82, 3) := by decide +kernel
theorem dX4_takenIn_8 : decode cX4_takenIn 8 = .ok (.ifCond .ne 5, 3) := by decide +kernel
theorem dX4_takenIn_11 : decode cX4_takenIn 11 = .ok (.iconst (-1), 1) := by decide +kernel
theorem dX4_takenIn_12 : decode cX4_takenIn 12 = .ok (.ireturn, 1) := by decide +kernel
theorem dX4_takenIn_13 : decode cX4_takenIn 13 = .ok (.aload_n 0, 1) := by decide +kernel
theorem dX4_takenIn_14 : decode cX4_takenIn 14 = .ok (.getfield 10, 3) := by decide +kernel
theorem dX4_takenIn_17 : decode cX4_takenIn 17 = .ok (.getfield 119, 3) := by decide +kernel
theorem dX4_takenIn_20 : decode cX4_takenIn 20 = .ok (.iload_n 1, 1) := by decide +kernel
theorem dX4_takenIn_21 : decode cX4_takenIn 21 = .ok (.iaload, 1) := by decide +kernel
theorem dX4_takenIn_22 : decode cX4_takenIn 22 = .ok (.ifCond .eq 6, 3) := by decide +kernel
theorem dX4_takenIn_25 : decode cX4_takenIn 25 = .ok (.bipush (-5), 2) := by decide +kernel
theorem dX4_takenIn_27 : decode cX4_takenIn 27 = .ok (.ireturn, 1) := by decide +kernel
theorem dX4_takenIn_28 : decode cX4_takenIn 28 = .ok (.aload_n 0, 1) := by decide +kernel
theorem dX4_takenIn_29 : decode cX4_takenIn 29 = .ok (.getfield 16, 3) := by decide +kernel
theorem dX4_takenIn_32 : decode cX4_takenIn 32 = .ok (.aload_n 0, 1) := by decide +kernel
theorem dX4_takenIn_33 : decode cX4_takenIn 33 = .ok (.getfield 10, 3) := by decide +kernel
theorem dX4_takenIn_36 : decode cX4_takenIn 36 = .ok (.invokevirtual 122, 3) := by decide +kernel
theorem dX4_takenIn_39 : decode cX4_takenIn 39 = .ok (.iconst 1, 1) := by decide +kernel
theorem dX4_takenIn_40 : decode cX4_takenIn 40 = .ok (.istore_n 2, 1) := by decide +kernel
theorem dX4_takenIn_41 : decode cX4_takenIn 41 = .ok (.iload_n 2, 1) := by decide +kernel
theorem dX4_takenIn_42 : decode cX4_takenIn 42 = .ok (.sipush 500, 3) := by decide +kernel
theorem dX4_takenIn_45 : decode cX4_takenIn 45 = .ok (.if_icmp .gt 32, 3) := by decide +kernel
theorem dX4_takenIn_48 : decode cX4_takenIn 48 = .ok (.aload_n 0, 1) := by decide +kernel
theorem dX4_takenIn_49 : decode cX4_takenIn 49 = .ok (.getfield 16, 3) := by decide +kernel
theorem dX4_takenIn_52 : decode cX4_takenIn 52 = .ok (.invokevirtual 125, 3) := by decide +kernel
theorem dX4_takenIn_55 : decode cX4_takenIn 55 = .ok (.pop, 1) := by decide +kernel
theorem dX4_takenIn_56 : decode cX4_takenIn 56 = .ok (.aload_n 0, 1) := by decide +kernel
theorem dX4_takenIn_57 : decode cX4_takenIn 57 = .ok (.getfield 16, 3) := by decide +kernel
theorem dX4_takenIn_60 : decode cX4_takenIn 60 = .ok (.getfield 119, 3) := by decide +kernel
theorem dX4_takenIn_63 : decode cX4_takenIn 63 = .ok (.iload_n 1, 1) := by decide +kernel
theorem dX4_takenIn_64 : decode cX4_takenIn 64 = .ok (.iaload, 1) := by decide +kernel
theorem dX4_takenIn_65 : decode cX4_takenIn 65 = .ok (.iconst 1, 1) := by decide +kernel
theorem dX4_takenIn_66 : decode cX4_takenIn 66 = .ok (.if_icmp .ne 5, 3) := by decide +kernel
theorem dX4_takenIn_69 : decode cX4_takenIn 69 = .ok (.iload_n 2, 1) := by decide +kernel
theorem dX4_takenIn_70 : decode cX4_takenIn 70 = .ok (.ireturn, 1) := by decide +kernel
theorem dX4_takenIn_71 : decode cX4_takenIn 71 = .ok (.iinc 2 1, 3) := by decide +kernel
theorem dX4_takenIn_74 : decode cX4_takenIn 74 = .ok (.goto (-33), 3) := by decide +kernel
theorem dX4_takenIn_77 : decode cX4_takenIn 77 = .ok (.bipush (-6), 2) := by decide +kernel
theorem dX4_takenIn_79 : decode cX4_takenIn 79 = .ok (.ireturn, 1) := by decide +kernel
theorem dX4_would_0 : decode cX4_would 0 = .ok (.iload_n 1, 1) := by decide +kernel
theorem dX4_would_1 : decode cX4_would 1 = .ok (.iconst 1, 1) := by decide +kernel
theorem dX4_would_2 : decode cX4_would 2 = .ok (.if_icmp .lt 18, 3) := by decide +kernel
theorem dX4_would_5 : decode cX4_would 5 = .ok (.iload_n 1, 1) := by decide +kernel
theorem dX4_would_6 : decode cX4_would 6 = .ok (.bipush 99, 2) := by decide +kernel
theorem dX4_would_8 : decode cX4_would 8 = .ok (.if_icmp .gt 12, 3) := by decide +kernel
theorem dX4_would_11 : decode cX4_would 11 = .ok (.iload_n 2, 1) := by decide +kernel
theorem dX4_would_12 : decode cX4_would 12 = .ok (.ifCond .lt 8, 3) := by decide +kernel
theorem dX4_would_15 : decode cX4_would 15 = .ok (.iload_n 2, 1) := by decide +kernel
theorem dX4_would_16 : decode cX4_would 16 = .ok (.iconst 3, 1) := by decide +kernel
theorem dX4_would_17 : decode cX4_would 17 = .ok (.if_icmp .le 6, 3) := by decide +kernel
theorem dX4_would_20 : decode cX4_would 20 = .ok (.bipush (-2), 2) := by decide +kernel
theorem dX4_would_22 : decode cX4_would 22 = .ok (.ireturn, 1) := by decide +kernel
theorem dX4_would_23 : decode cX4_would 23 = .ok (.aload_n 0, 1) := by decide +kernel
theorem dX4_would_24 : decode cX4_would 24 = .ok (.getfield 16, 3) := by decide +kernel
theorem dX4_would_27 : decode cX4_would 27 = .ok (.aload_n 0, 1) := by decide +kernel
theorem dX4_would_28 : decode cX4_would 28 = .ok (.getfield 10, 3) := by decide +kernel
theorem dX4_would_31 : decode cX4_would 31 = .ok (.invokevirtual 122, 3) := by decide +kernel
theorem dX4_would_34 : decode cX4_would 34 = .ok (.aload_n 0, 1) := by decide +kernel
theorem dX4_would_35 : decode cX4_would 35 = .ok (.getfield 16, 3) := by decide +kernel
theorem dX4_would_38 : decode cX4_would 38 = .ok (.iload_n 1, 1) := by decide +kernel
theorem dX4_would_39 : decode cX4_would 39 = .ok (.invokevirtual 128, 3) := by decide +kernel
theorem dX4_would_42 : decode cX4_would 42 = .ok (.pop, 1) := by decide +kernel
theorem dX4_would_43 : decode cX4_would 43 = .ok (.iload_n 2, 1) := by decide +kernel
theorem dX4_would_44 : decode cX4_would 44 = .ok (.tableswitch 88 0 2 #[28, 48, 68], 28) := by decide +kernel
theorem dX4_would_72 : decode cX4_would 72 = .ok (.aload_n 0, 1) := by decide +kernel
theorem dX4_would_73 : decode cX4_would 73 = .ok (.getfield 16, 3) := by decide +kernel
theorem dX4_would_76 : decode cX4_would 76 = .ok (.bipush 7, 2) := by decide +kernel
theorem dX4_would_78 : decode cX4_would 78 = .ok (.invokevirtual 98, 3) := by decide +kernel
theorem dX4_would_81 : decode cX4_would 81 = .ok (.aload_n 0, 1) := by decide +kernel
theorem dX4_would_82 : decode cX4_would 82 = .ok (.getfield 10, 3) := by decide +kernel
theorem dX4_would_85 : decode cX4_would 85 = .ok (.bipush 7, 2) := by decide +kernel
theorem dX4_would_87 : decode cX4_would 87 = .ok (.invokevirtual 98, 3) := by decide +kernel
theorem dX4_would_90 : decode cX4_would 90 = .ok (.isub, 1) := by decide +kernel
theorem dX4_would_91 : decode cX4_would 91 = .ok (.ireturn, 1) := by decide +kernel
theorem dX4_would_92 : decode cX4_would 92 = .ok (.aload_n 0, 1) := by decide +kernel
theorem dX4_would_93 : decode cX4_would 93 = .ok (.getfield 16, 3) := by decide +kernel
theorem dX4_would_96 : decode cX4_would 96 = .ok (.bipush 6, 2) := by decide +kernel
theorem dX4_would_98 : decode cX4_would 98 = .ok (.invokevirtual 98, 3) := by decide +kernel
theorem dX4_would_101 : decode cX4_would 101 = .ok (.aload_n 0, 1) := by decide +kernel
theorem dX4_would_102 : decode cX4_would 102 = .ok (.getfield 10, 3) := by decide +kernel
theorem dX4_would_105 : decode cX4_would 105 = .ok (.bipush 6, 2) := by decide +kernel
theorem dX4_would_107 : decode cX4_would 107 = .ok (.invokevirtual 98, 3) := by decide +kernel
theorem dX4_would_110 : decode cX4_would 110 = .ok (.isub, 1) := by decide +kernel
theorem dX4_would_111 : decode cX4_would 111 = .ok (.ireturn, 1) := by decide +kernel
theorem dX4_would_112 : decode cX4_would 112 = .ok (.aload_n 0, 1) := by decide +kernel
theorem dX4_would_113 : decode cX4_would 113 = .ok (.getfield 16, 3) := by decide +kernel
theorem dX4_would_116 : decode cX4_would 116 = .ok (.bipush 9, 2) := by decide +kernel
theorem dX4_would_118 : decode cX4_would 118 = .ok (.invokevirtual 98, 3) := by decide +kernel
theorem dX4_would_121 : decode cX4_would 121 = .ok (.aload_n 0, 1) := by decide +kernel
theorem dX4_would_122 : decode cX4_would 122 = .ok (.getfield 10, 3) := by decide +kernel
theorem dX4_would_125 : decode cX4_would 125 = .ok (.bipush 9, 2) := by decide +kernel
theorem dX4_would_127 : decode cX4_would 127 = .ok (.invokevirtual 98, 3) := by decide +kernel
theorem dX4_would_130 : decode cX4_would 130 = .ok (.isub, 1) := by decide +kernel
theorem dX4_would_131 : decode cX4_would 131 = .ok (.ireturn, 1) := by decide +kernel
theorem dX4_would_132 : decode cX4_would 132 = .ok (.aload_n 0, 1) := by decide +kernel
theorem dX4_would_133 : decode cX4_would 133 = .ok (.getfield 16, 3) := by decide +kernel
theorem dX4_would_136 : decode cX4_would 136 = .ok (.iconst 3, 1) := by decide +kernel
theorem dX4_would_137 : decode cX4_would 137 = .ok (.invokevirtual 98, 3) := by decide +kernel
theorem dX4_would_140 : decode cX4_would 140 = .ok (.ireturn, 1) := by decide +kernel
theorem dX4_bestCount_0 : decode cX4_bestCount 0 = .ok (.iload_n 1, 1) := by decide +kernel
theorem dX4_bestCount_1 : decode cX4_bestCount 1 = .ok (.invokestatic 69, 3) := by decide +kernel
theorem dX4_bestCount_4 : decode cX4_bestCount 4 = .ok (.ifCond .ne 5, 3) := by decide +kernel
theorem dX4_bestCount_7 : decode cX4_bestCount 7 = .ok (.iconst (-1), 1) := by decide +kernel
theorem dX4_bestCount_8 : decode cX4_bestCount 8 = .ok (.ireturn, 1) := by decide +kernel
theorem dX4_bestCount_9 : decode cX4_bestCount 9 = .ok (.iload_n 2, 1) := by decide +kernel
theorem dX4_bestCount_10 : decode cX4_bestCount 10 = .ok (.iconst 1, 1) := by decide +kernel
theorem dX4_bestCount_11 : decode cX4_bestCount 11 = .ok (.if_icmp .lt 18, 3) := by decide +kernel
theorem dX4_bestCount_14 : decode cX4_bestCount 14 = .ok (.iload_n 2, 1) := by decide +kernel
theorem dX4_bestCount_15 : decode cX4_bestCount 15 = .ok (.bipush 20, 2) := by decide +kernel
theorem dX4_bestCount_17 : decode cX4_bestCount 17 = .ok (.if_icmp .gt 12, 3) := by decide +kernel
theorem dX4_bestCount_20 : decode cX4_bestCount 20 = .ok (.iload_n 3, 1) := by decide +kernel
theorem dX4_bestCount_21 : decode cX4_bestCount 21 = .ok (.ifCond .lt 8, 3) := by decide +kernel
theorem dX4_bestCount_24 : decode cX4_bestCount 24 = .ok (.iload_n 3, 1) := by decide +kernel
theorem dX4_bestCount_25 : decode cX4_bestCount 25 = .ok (.iconst 1, 1) := by decide +kernel
theorem dX4_bestCount_26 : decode cX4_bestCount 26 = .ok (.if_icmp .le 6, 3) := by decide +kernel
theorem dX4_bestCount_29 : decode cX4_bestCount 29 = .ok (.bipush (-2), 2) := by decide +kernel
theorem dX4_bestCount_31 : decode cX4_bestCount 31 = .ok (.ireturn, 1) := by decide +kernel
theorem dX4_bestCount_32 : decode cX4_bestCount 32 = .ok (.iconst 1, 1) := by decide +kernel
theorem dX4_bestCount_33 : decode cX4_bestCount 33 = .ok (.istore 4, 2) := by decide +kernel
theorem dX4_bestCount_35 : decode cX4_bestCount 35 = .ok (.aload_n 0, 1) := by decide +kernel
theorem dX4_bestCount_36 : decode cX4_bestCount 36 = .ok (.iload_n 1, 1) := by decide +kernel
theorem dX4_bestCount_37 : decode cX4_bestCount 37 = .ok (.iconst 1, 1) := by decide +kernel
theorem dX4_bestCount_38 : decode cX4_bestCount 38 = .ok (.iload_n 2, 1) := by decide +kernel
theorem dX4_bestCount_39 : decode cX4_bestCount 39 = .ok (.invokevirtual 131, 3) := by decide +kernel
theorem dX4_bestCount_42 : decode cX4_bestCount 42 = .ok (.istore 5, 2) := by decide +kernel
theorem dX4_bestCount_44 : decode cX4_bestCount 44 = .ok (.iconst 2, 1) := by decide +kernel
theorem dX4_bestCount_45 : decode cX4_bestCount 45 = .ok (.istore 6, 2) := by decide +kernel
theorem dX4_bestCount_47 : decode cX4_bestCount 47 = .ok (.iload 6, 2) := by decide +kernel
theorem dX4_bestCount_49 : decode cX4_bestCount 49 = .ok (.bipush 32, 2) := by decide +kernel
theorem dX4_bestCount_51 : decode cX4_bestCount 51 = .ok (.if_icmp .gt 34, 3) := by decide +kernel
theorem dX4_bestCount_54 : decode cX4_bestCount 54 = .ok (.aload_n 0, 1) := by decide +kernel
theorem dX4_bestCount_55 : decode cX4_bestCount 55 = .ok (.iload_n 1, 1) := by decide +kernel
theorem dX4_bestCount_56 : decode cX4_bestCount 56 = .ok (.iload 6, 2) := by decide +kernel
theorem dX4_bestCount_58 : decode cX4_bestCount 58 = .ok (.iload_n 2, 1) := by decide +kernel
theorem dX4_bestCount_59 : decode cX4_bestCount 59 = .ok (.invokevirtual 131, 3) := by decide +kernel
theorem dX4_bestCount_62 : decode cX4_bestCount 62 = .ok (.istore 7, 2) := by decide +kernel
theorem dX4_bestCount_64 : decode cX4_bestCount 64 = .ok (.iload 7, 2) := by decide +kernel
theorem dX4_bestCount_66 : decode cX4_bestCount 66 = .ok (.iload 5, 2) := by decide +kernel
theorem dX4_bestCount_68 : decode cX4_bestCount 68 = .ok (.if_icmp .ge 11, 3) := by decide +kernel
theorem dX4_bestCount_71 : decode cX4_bestCount 71 = .ok (.iload 6, 2) := by decide +kernel
theorem dX4_bestCount_73 : decode cX4_bestCount 73 = .ok (.istore 4, 2) := by decide +kernel
theorem dX4_bestCount_75 : decode cX4_bestCount 75 = .ok (.iload 7, 2) := by decide +kernel
theorem dX4_bestCount_77 : decode cX4_bestCount 77 = .ok (.istore 5, 2) := by decide +kernel
theorem dX4_bestCount_79 : decode cX4_bestCount 79 = .ok (.iinc 6 1, 3) := by decide +kernel
theorem dX4_bestCount_82 : decode cX4_bestCount 82 = .ok (.goto (-35), 3) := by decide +kernel
theorem dX4_bestCount_85 : decode cX4_bestCount 85 = .ok (.iload_n 3, 1) := by decide +kernel
theorem dX4_bestCount_86 : decode cX4_bestCount 86 = .ok (.ifCond .ne 8, 3) := by decide +kernel
theorem dX4_bestCount_89 : decode cX4_bestCount 89 = .ok (.iload 4, 2) := by decide +kernel
theorem dX4_bestCount_91 : decode cX4_bestCount 91 = .ok (.goto 5, 3) := by decide +kernel
theorem dX4_bestCount_94 : decode cX4_bestCount 94 = .ok (.iload 5, 2) := by decide +kernel
theorem dX4_bestCount_96 : decode cX4_bestCount 96 = .ok (.ireturn, 1) := by decide +kernel
theorem dX4_put_0 : decode cX4_put 0 = .ok (.aload_n 0, 1) := by decide +kernel
theorem dX4_put_1 : decode cX4_put 1 = .ok (.getfield 37, 3) := by decide +kernel
theorem dX4_put_4 : decode cX4_put 4 = .ok (.lload_n 1, 1) := by decide +kernel
theorem dX4_put_5 : decode cX4_put 5 = .ok (.invokevirtual 134, 3) := by decide +kernel
theorem dX4_put_8 : decode cX4_put 8 = .ok (.ireturn, 1) := by decide +kernel
theorem dX4_wipe_0 : decode cX4_wipe 0 = .ok (.aload_n 0, 1) := by decide +kernel
theorem dX4_wipe_1 : decode cX4_wipe 1 = .ok (.getfield 37, 3) := by decide +kernel
theorem dX4_wipe_4 : decode cX4_wipe 4 = .ok (.invokevirtual 138, 3) := by decide +kernel
theorem dX4_wipe_7 : decode cX4_wipe 7 = .ok (.ireturn, 1) := by decide +kernel
theorem dX4_fault_0 : decode cX4_fault 0 = .ok (.aload_n 0, 1) := by decide +kernel
theorem dX4_fault_1 : decode cX4_fault 1 = .ok (.getfield 37, 3) := by decide +kernel
theorem dX4_fault_4 : decode cX4_fault 4 = .ok (.invokevirtual 141, 3) := by decide +kernel
theorem dX4_fault_7 : decode cX4_fault 7 = .ok (.ireturn, 1) := by decide +kernel
theorem dX4_carryOut_0 : decode cX4_carryOut 0 = .ok (.aload_n 0, 1) := by decide +kernel
theorem dX4_carryOut_1 : decode cX4_carryOut 1 = .ok (.getfield 37, 3) := by decide +kernel
theorem dX4_carryOut_4 : decode cX4_carryOut 4 = .ok (.invokevirtual 141, 3) := by decide +kernel
theorem dX4_carryOut_7 : decode cX4_carryOut 7 = .ok (.bipush (-6), 2) := by decide +kernel
theorem dX4_carryOut_9 : decode cX4_carryOut 9 = .ok (.if_icmp .eq 6, 3) := by decide +kernel
theorem dX4_carryOut_12 : decode cX4_carryOut 12 = .ok (.bipush (-3), 2) := by decide +kernel
theorem dX4_carryOut_14 : decode cX4_carryOut 14 = .ok (.ireturn, 1) := by decide +kernel
theorem dX4_carryOut_15 : decode cX4_carryOut 15 = .ok (.aload_n 0, 1) := by decide +kernel
theorem dX4_carryOut_16 : decode cX4_carryOut 16 = .ok (.getfield 30, 3) := by decide +kernel
theorem dX4_carryOut_19 : decode cX4_carryOut 19 = .ok (.aload_n 0, 1) := by decide +kernel
theorem dX4_carryOut_20 : decode cX4_carryOut 20 = .ok (.getfield 10, 3) := by decide +kernel
theorem dX4_carryOut_23 : decode cX4_carryOut 23 = .ok (.invokevirtual 41, 3) := by decide +kernel
theorem dX4_carryOut_26 : decode cX4_carryOut 26 = .ok (.iconst 0, 1) := by decide +kernel
theorem dX4_carryOut_27 : decode cX4_carryOut 27 = .ok (.istore_n 1, 1) := by decide +kernel
theorem dX4_carryOut_28 : decode cX4_carryOut 28 = .ok (.iconst 1, 1) := by decide +kernel
theorem dX4_carryOut_29 : decode cX4_carryOut 29 = .ok (.istore_n 2, 1) := by decide +kernel
theorem dX4_carryOut_30 : decode cX4_carryOut 30 = .ok (.aload_n 0, 1) := by decide +kernel
theorem dX4_carryOut_31 : decode cX4_carryOut 31 = .ok (.getfield 37, 3) := by decide +kernel
theorem dX4_carryOut_34 : decode cX4_carryOut 34 = .ok (.invokevirtual 144, 3) := by decide +kernel
theorem dX4_carryOut_37 : decode cX4_carryOut 37 = .ok (.iconst 0, 1) := by decide +kernel
theorem dX4_carryOut_38 : decode cX4_carryOut 38 = .ok (.istore_n 3, 1) := by decide +kernel
theorem dX4_carryOut_39 : decode cX4_carryOut 39 = .ok (.iload_n 3, 1) := by decide +kernel
theorem dX4_carryOut_40 : decode cX4_carryOut 40 = .ok (.bipush 80, 2) := by decide +kernel
theorem dX4_carryOut_42 : decode cX4_carryOut 42 = .ok (.if_icmp .ge 73, 3) := by decide +kernel
theorem dX4_carryOut_45 : decode cX4_carryOut 45 = .ok (.iload_n 2, 1) := by decide +kernel
theorem dX4_carryOut_46 : decode cX4_carryOut 46 = .ok (.ifCond .eq 69, 3) := by decide +kernel
theorem dX4_carryOut_49 : decode cX4_carryOut 49 = .ok (.aload_n 0, 1) := by decide +kernel
theorem dX4_carryOut_50 : decode cX4_carryOut 50 = .ok (.getfield 37, 3) := by decide +kernel
theorem dX4_carryOut_53 : decode cX4_carryOut 53 = .ok (.invokevirtual 147, 3) := by decide +kernel
theorem dX4_carryOut_56 : decode cX4_carryOut 56 = .ok (.ifCond .eq 59, 3) := by decide +kernel
theorem dX4_carryOut_59 : decode cX4_carryOut 59 = .ok (.iconst 0, 1) := by decide +kernel
theorem dX4_carryOut_60 : decode cX4_carryOut 60 = .ok (.istore 4, 2) := by decide +kernel
theorem dX4_carryOut_62 : decode cX4_carryOut 62 = .ok (.iload 4, 2) := by decide +kernel
theorem dX4_carryOut_64 : decode cX4_carryOut 64 = .ok (.aload_n 0, 1) := by decide +kernel
theorem dX4_carryOut_65 : decode cX4_carryOut 65 = .ok (.getfield 37, 3) := by decide +kernel
theorem dX4_carryOut_68 : decode cX4_carryOut 68 = .ok (.getfield 151, 3) := by decide +kernel
theorem dX4_carryOut_71 : decode cX4_carryOut 71 = .ok (.if_icmp .ge 38, 3) := by decide +kernel
theorem dX4_carryOut_74 : decode cX4_carryOut 74 = .ok (.iload_n 2, 1) := by decide +kernel
theorem dX4_carryOut_75 : decode cX4_carryOut 75 = .ok (.ifCond .eq 34, 3) := by decide +kernel
theorem dX4_carryOut_78 : decode cX4_carryOut 78 = .ok (.aload_n 0, 1) := by decide +kernel
theorem dX4_carryOut_79 : decode cX4_carryOut 79 = .ok (.invokevirtual 154, 3) := by decide +kernel
theorem dX4_carryOut_82 : decode cX4_carryOut 82 = .ok (.ifCond .lt 7, 3) := by decide +kernel
theorem dX4_carryOut_85 : decode cX4_carryOut 85 = .ok (.iconst 1, 1) := by decide +kernel
theorem dX4_carryOut_86 : decode cX4_carryOut 86 = .ok (.goto 4, 3) := by decide +kernel
theorem dX4_carryOut_89 : decode cX4_carryOut 89 = .ok (.iconst 0, 1) := by decide +kernel
theorem dX4_carryOut_90 : decode cX4_carryOut 90 = .ok (.istore_n 2, 1) := by decide +kernel
theorem dX4_carryOut_91 : decode cX4_carryOut 91 = .ok (.iload_n 1, 1) := by decide +kernel
theorem dX4_carryOut_92 : decode cX4_carryOut 92 = .ok (.iload_n 2, 1) := by decide +kernel
theorem dX4_carryOut_93 : decode cX4_carryOut 93 = .ok (.ifCond .eq 7, 3) := by decide +kernel
theorem dX4_carryOut_96 : decode cX4_carryOut 96 = .ok (.iconst 1, 1) := by decide +kernel
theorem dX4_carryOut_97 : decode cX4_carryOut 97 = .ok (.goto 4, 3) := by decide +kernel
theorem dX4_carryOut_100 : decode cX4_carryOut 100 = .ok (.iconst 0, 1) := by decide +kernel
theorem dX4_carryOut_101 : decode cX4_carryOut 101 = .ok (.iadd, 1) := by decide +kernel
theorem dX4_carryOut_102 : decode cX4_carryOut 102 = .ok (.istore_n 1, 1) := by decide +kernel
theorem dX4_carryOut_103 : decode cX4_carryOut 103 = .ok (.iinc 4 1, 3) := by decide +kernel
theorem dX4_carryOut_106 : decode cX4_carryOut 106 = .ok (.goto (-44), 3) := by decide +kernel
theorem dX4_carryOut_109 : decode cX4_carryOut 109 = .ok (.iinc 3 1, 3) := by decide +kernel
theorem dX4_carryOut_112 : decode cX4_carryOut 112 = .ok (.goto (-73), 3) := by decide +kernel
theorem dX4_carryOut_115 : decode cX4_carryOut 115 = .ok (.aload_n 0, 1) := by decide +kernel
theorem dX4_carryOut_116 : decode cX4_carryOut 116 = .ok (.getfield 37, 3) := by decide +kernel
theorem dX4_carryOut_119 : decode cX4_carryOut 119 = .ok (.invokevirtual 138, 3) := by decide +kernel
theorem dX4_carryOut_122 : decode cX4_carryOut 122 = .ok (.pop, 1) := by decide +kernel
theorem dX4_carryOut_123 : decode cX4_carryOut 123 = .ok (.aload_n 0, 1) := by decide +kernel
theorem dX4_carryOut_124 : decode cX4_carryOut 124 = .ok (.getfield 30, 3) := by decide +kernel
theorem dX4_carryOut_127 : decode cX4_carryOut 127 = .ok (.iload_n 1, 1) := by decide +kernel
theorem dX4_carryOut_128 : decode cX4_carryOut 128 = .ok (.invokevirtual 49, 3) := by decide +kernel
theorem dX4_carryOut_131 : decode cX4_carryOut 131 = .ok (.ireturn, 1) := by decide +kernel
theorem dX4_undo_0 : decode cX4_undo 0 = .ok (.aload_n 0, 1) := by decide +kernel
theorem dX4_undo_1 : decode cX4_undo 1 = .ok (.getfield 30, 3) := by decide +kernel
theorem dX4_undo_4 : decode cX4_undo 4 = .ok (.aload_n 0, 1) := by decide +kernel
theorem dX4_undo_5 : decode cX4_undo 5 = .ok (.getfield 10, 3) := by decide +kernel
theorem dX4_undo_8 : decode cX4_undo 8 = .ok (.invokevirtual 157, 3) := by decide +kernel
theorem dX4_undo_11 : decode cX4_undo 11 = .ok (.ireturn, 1) := by decide +kernel
theorem dX4_save_0 : decode cX4_save 0 = .ok (.iload_n 1, 1) := by decide +kernel
theorem dX4_save_1 : decode cX4_save 1 = .ok (.invokestatic 161, 3) := by decide +kernel
theorem dX4_save_4 : decode cX4_save 4 = .ok (.ifCond .ne 6, 3) := by decide +kernel
theorem dX4_save_7 : decode cX4_save 7 = .ok (.bipush (-2), 2) := by decide +kernel
theorem dX4_save_9 : decode cX4_save 9 = .ok (.ireturn, 1) := by decide +kernel
theorem dX4_save_10 : decode cX4_save 10 = .ok (.aload_n 0, 1) := by decide +kernel
theorem dX4_save_11 : decode cX4_save 11 = .ok (.getfield 19, 3) := by decide +kernel
theorem dX4_save_14 : decode cX4_save 14 = .ok (.iload_n 1, 1) := by decide +kernel
theorem dX4_save_15 : decode cX4_save 15 = .ok (.aaload, 1) := by decide +kernel
theorem dX4_save_16 : decode cX4_save 16 = .ok (.aload_n 0, 1) := by decide +kernel
theorem dX4_save_17 : decode cX4_save 17 = .ok (.getfield 10, 3) := by decide +kernel
theorem dX4_save_20 : decode cX4_save 20 = .ok (.invokevirtual 122, 3) := by decide +kernel
theorem dX4_save_23 : decode cX4_save 23 = .ok (.aload_n 0, 1) := by decide +kernel
theorem dX4_save_24 : decode cX4_save 24 = .ok (.getfield 23, 3) := by decide +kernel
theorem dX4_save_27 : decode cX4_save 27 = .ok (.iload_n 1, 1) := by decide +kernel
theorem dX4_save_28 : decode cX4_save 28 = .ok (.iconst 1, 1) := by decide +kernel
theorem dX4_save_29 : decode cX4_save 29 = .ok (.bastore, 1) := by decide +kernel
theorem dX4_save_30 : decode cX4_save 30 = .ok (.aload_n 0, 1) := by decide +kernel
theorem dX4_save_31 : decode cX4_save 31 = .ok (.getfield 10, 3) := by decide +kernel
theorem dX4_save_34 : decode cX4_save 34 = .ok (.getfield 95, 3) := by decide +kernel
theorem dX4_save_37 : decode cX4_save 37 = .ok (.ireturn, 1) := by decide +kernel
theorem dX4_restore_0 : decode cX4_restore 0 = .ok (.iload_n 1, 1) := by decide +kernel
theorem dX4_restore_1 : decode cX4_restore 1 = .ok (.invokestatic 161, 3) := by decide +kernel
theorem dX4_restore_4 : decode cX4_restore 4 = .ok (.ifCond .ne 6, 3) := by decide +kernel
theorem dX4_restore_7 : decode cX4_restore 7 = .ok (.bipush (-2), 2) := by decide +kernel
theorem dX4_restore_9 : decode cX4_restore 9 = .ok (.ireturn, 1) := by decide +kernel
theorem dX4_restore_10 : decode cX4_restore 10 = .ok (.aload_n 0, 1) := by decide +kernel
theorem dX4_restore_11 : decode cX4_restore 11 = .ok (.getfield 23, 3) := by decide +kernel
theorem dX4_restore_14 : decode cX4_restore 14 = .ok (.iload_n 1, 1) := by decide +kernel
theorem dX4_restore_15 : decode cX4_restore 15 = .ok (.baload, 1) := by decide +kernel
theorem dX4_restore_16 : decode cX4_restore 16 = .ok (.ifCond .ne 6, 3) := by decide +kernel
theorem dX4_restore_19 : decode cX4_restore 19 = .ok (.bipush (-5), 2) := by decide +kernel
theorem dX4_restore_21 : decode cX4_restore 21 = .ok (.ireturn, 1) := by decide +kernel
theorem dX4_restore_22 : decode cX4_restore 22 = .ok (.aload_n 0, 1) := by decide +kernel
theorem dX4_restore_23 : decode cX4_restore 23 = .ok (.getfield 30, 3) := by decide +kernel
theorem dX4_restore_26 : decode cX4_restore 26 = .ok (.aload_n 0, 1) := by decide +kernel
theorem dX4_restore_27 : decode cX4_restore 27 = .ok (.getfield 10, 3) := by decide +kernel
theorem dX4_restore_30 : decode cX4_restore 30 = .ok (.invokevirtual 41, 3) := by decide +kernel
theorem dX4_restore_33 : decode cX4_restore 33 = .ok (.aload_n 0, 1) := by decide +kernel
theorem dX4_restore_34 : decode cX4_restore 34 = .ok (.getfield 10, 3) := by decide +kernel
theorem dX4_restore_37 : decode cX4_restore 37 = .ok (.aload_n 0, 1) := by decide +kernel
theorem dX4_restore_38 : decode cX4_restore 38 = .ok (.getfield 19, 3) := by decide +kernel
theorem dX4_restore_41 : decode cX4_restore 41 = .ok (.iload_n 1, 1) := by decide +kernel
theorem dX4_restore_42 : decode cX4_restore 42 = .ok (.aaload, 1) := by decide +kernel
theorem dX4_restore_43 : decode cX4_restore 43 = .ok (.invokevirtual 122, 3) := by decide +kernel
theorem dX4_restore_46 : decode cX4_restore 46 = .ok (.aload_n 0, 1) := by decide +kernel
theorem dX4_restore_47 : decode cX4_restore 47 = .ok (.getfield 30, 3) := by decide +kernel
theorem dX4_restore_50 : decode cX4_restore 50 = .ok (.aload_n 0, 1) := by decide +kernel
theorem dX4_restore_51 : decode cX4_restore 51 = .ok (.getfield 10, 3) := by decide +kernel
theorem dX4_restore_54 : decode cX4_restore 54 = .ok (.getfield 95, 3) := by decide +kernel
theorem dX4_restore_57 : decode cX4_restore 57 = .ok (.invokevirtual 49, 3) := by decide +kernel
theorem dX4_restore_60 : decode cX4_restore 60 = .ok (.ireturn, 1) := by decide +kernel
theorem dX4_isQueue_0 : decode cX4_isQueue 0 = .ok (.iload_n 0, 1) := by decide +kernel
theorem dX4_isQueue_1 : decode cX4_isQueue 1 = .ok (.ifCond .lt 12, 3) := by decide +kernel
theorem dX4_isQueue_4 : decode cX4_isQueue 4 = .ok (.iload_n 0, 1) := by decide +kernel
theorem dX4_isQueue_5 : decode cX4_isQueue 5 = .ok (.iconst 3, 1) := by decide +kernel
theorem dX4_isQueue_6 : decode cX4_isQueue 6 = .ok (.if_icmp .ge 7, 3) := by decide +kernel
theorem dX4_isQueue_9 : decode cX4_isQueue 9 = .ok (.iconst 1, 1) := by decide +kernel
theorem dX4_isQueue_10 : decode cX4_isQueue 10 = .ok (.goto 4, 3) := by decide +kernel
theorem dX4_isQueue_13 : decode cX4_isQueue 13 = .ok (.iconst 0, 1) := by decide +kernel
theorem dX4_isQueue_14 : decode cX4_isQueue 14 = .ok (.ireturn, 1) := by decide +kernel
theorem dX4_isSlot_0 : decode cX4_isSlot 0 = .ok (.iload_n 0, 1) := by decide +kernel
theorem dX4_isSlot_1 : decode cX4_isSlot 1 = .ok (.ifCond .lt 12, 3) := by decide +kernel
theorem dX4_isSlot_4 : decode cX4_isSlot 4 = .ok (.iload_n 0, 1) := by decide +kernel
theorem dX4_isSlot_5 : decode cX4_isSlot 5 = .ok (.iconst 2, 1) := by decide +kernel
theorem dX4_isSlot_6 : decode cX4_isSlot 6 = .ok (.if_icmp .ge 7, 3) := by decide +kernel
theorem dX4_isSlot_9 : decode cX4_isSlot 9 = .ok (.iconst 1, 1) := by decide +kernel
theorem dX4_isSlot_10 : decode cX4_isSlot 10 = .ok (.goto 4, 3) := by decide +kernel
theorem dX4_isSlot_13 : decode cX4_isSlot 13 = .ok (.iconst 0, 1) := by decide +kernel
theorem dX4_isSlot_14 : decode cX4_isSlot 14 = .ok (.ireturn, 1) := by decide +kernel
theorem dX4_trialCost_0 : decode cX4_trialCost 0 = .ok (.aload_n 0, 1) := by decide +kernel
theorem dX4_trialCost_1 : decode cX4_trialCost 1 = .ok (.getfield 16, 3) := by decide +kernel
theorem dX4_trialCost_4 : decode cX4_trialCost 4 = .ok (.aload_n 0, 1) := by decide +kernel
theorem dX4_trialCost_5 : decode cX4_trialCost 5 = .ok (.getfield 10, 3) := by decide +kernel
theorem dX4_trialCost_8 : decode cX4_trialCost 8 = .ok (.invokevirtual 164, 3) := by decide +kernel
theorem dX4_trialCost_11 : decode cX4_trialCost 11 = .ok (.aload_n 0, 1) := by decide +kernel
theorem dX4_trialCost_12 : decode cX4_trialCost 12 = .ok (.getfield 16, 3) := by decide +kernel
theorem dX4_trialCost_15 : decode cX4_trialCost 15 = .ok (.iload_n 1, 1) := by decide +kernel
theorem dX4_trialCost_16 : decode cX4_trialCost 16 = .ok (.iload_n 2, 1) := by decide +kernel
theorem dX4_trialCost_17 : decode cX4_trialCost 17 = .ok (.aload_n 0, 1) := by decide +kernel
theorem dX4_trialCost_18 : decode cX4_trialCost 18 = .ok (.getfield 10, 3) := by decide +kernel
theorem dX4_trialCost_21 : decode cX4_trialCost 21 = .ok (.getfield 73, 3) := by decide +kernel
theorem dX4_trialCost_24 : decode cX4_trialCost 24 = .ok (.iload_n 1, 1) := by decide +kernel
theorem dX4_trialCost_25 : decode cX4_trialCost 25 = .ok (.aaload, 1) := by decide +kernel
theorem dX4_trialCost_26 : decode cX4_trialCost 26 = .ok (.getfield 167, 3) := by decide +kernel
theorem dX4_trialCost_29 : decode cX4_trialCost 29 = .ok (.invokevirtual 53, 3) := by decide +kernel
theorem dX4_trialCost_32 : decode cX4_trialCost 32 = .ok (.pop, 1) := by decide +kernel
theorem dX4_trialCost_33 : decode cX4_trialCost 33 = .ok (.iconst 0, 1) := by decide +kernel
theorem dX4_trialCost_34 : decode cX4_trialCost 34 = .ok (.istore 4, 2) := by decide +kernel
theorem dX4_trialCost_36 : decode cX4_trialCost 36 = .ok (.iload 4, 2) := by decide +kernel
theorem dX4_trialCost_38 : decode cX4_trialCost 38 = .ok (.bipush 16, 2) := by decide +kernel
theorem dX4_trialCost_40 : decode cX4_trialCost 40 = .ok (.if_icmp .ge 27, 3) := by decide +kernel
theorem dX4_trialCost_43 : decode cX4_trialCost 43 = .ok (.aload_n 0, 1) := by decide +kernel
theorem dX4_trialCost_44 : decode cX4_trialCost 44 = .ok (.getfield 16, 3) := by decide +kernel
theorem dX4_trialCost_47 : decode cX4_trialCost 47 = .ok (.iload_n 1, 1) := by decide +kernel
theorem dX4_trialCost_48 : decode cX4_trialCost 48 = .ok (.invokevirtual 57, 3) := by decide +kernel
theorem dX4_trialCost_51 : decode cX4_trialCost 51 = .ok (.pop, 1) := by decide +kernel
theorem dX4_trialCost_52 : decode cX4_trialCost 52 = .ok (.aload_n 0, 1) := by decide +kernel
theorem dX4_trialCost_53 : decode cX4_trialCost 53 = .ok (.getfield 16, 3) := by decide +kernel
theorem dX4_trialCost_56 : decode cX4_trialCost 56 = .ok (.iload_n 3, 1) := by decide +kernel
theorem dX4_trialCost_57 : decode cX4_trialCost 57 = .ok (.invokevirtual 128, 3) := by decide +kernel
theorem dX4_trialCost_60 : decode cX4_trialCost 60 = .ok (.pop, 1) := by decide +kernel
theorem dX4_trialCost_61 : decode cX4_trialCost 61 = .ok (.iinc 4 1, 3) := by decide +kernel
theorem dX4_trialCost_64 : decode cX4_trialCost 64 = .ok (.goto (-28), 3) := by decide +kernel
theorem dX4_trialCost_67 : decode cX4_trialCost 67 = .ok (.iconst 0, 1) := by decide +kernel
theorem dX4_trialCost_68 : decode cX4_trialCost 68 = .ok (.istore 4, 2) := by decide +kernel
theorem dX4_trialCost_70 : decode cX4_trialCost 70 = .ok (.iload 4, 2) := by decide +kernel
theorem dX4_trialCost_72 : decode cX4_trialCost 72 = .ok (.sipush 1000, 3) := by decide +kernel
theorem dX4_trialCost_75 : decode cX4_trialCost 75 = .ok (.if_icmp .ge 32, 3) := by decide +kernel
theorem dX4_trialCost_78 : decode cX4_trialCost 78 = .ok (.aload_n 0, 1) := by decide +kernel
theorem dX4_trialCost_79 : decode cX4_trialCost 79 = .ok (.getfield 16, 3) := by decide +kernel
theorem dX4_trialCost_82 : decode cX4_trialCost 82 = .ok (.getfield 73, 3) := by decide +kernel
theorem dX4_trialCost_85 : decode cX4_trialCost 85 = .ok (.iload_n 1, 1) := by decide +kernel
theorem dX4_trialCost_86 : decode cX4_trialCost 86 = .ok (.aaload, 1) := by decide +kernel
theorem dX4_trialCost_87 : decode cX4_trialCost 87 = .ok (.getfield 170, 3) := by decide +kernel
theorem dX4_trialCost_90 : decode cX4_trialCost 90 = .ok (.ifCond .le 17, 3) := by decide +kernel
theorem dX4_trialCost_93 : decode cX4_trialCost 93 = .ok (.aload_n 0, 1) := by decide +kernel
theorem dX4_trialCost_94 : decode cX4_trialCost 94 = .ok (.getfield 16, 3) := by decide +kernel
theorem dX4_trialCost_97 : decode cX4_trialCost 97 = .ok (.invokevirtual 125, 3) := by decide +kernel
theorem dX4_trialCost_100 : decode cX4_trialCost 100 = .ok (.pop, 1) := by decide +kernel
theorem dX4_trialCost_101 : decode cX4_trialCost 101 = .ok (.iinc 4 1, 3) := by decide +kernel
theorem dX4_trialCost_104 : decode cX4_trialCost 104 = .ok (.goto (-34), 3) := by decide +kernel
theorem dX4_trialCost_107 : decode cX4_trialCost 107 = .ok (.aload_n 0, 1) := by decide +kernel
theorem dX4_trialCost_108 : decode cX4_trialCost 108 = .ok (.getfield 16, 3) := by decide +kernel
theorem dX4_trialCost_111 : decode cX4_trialCost 111 = .ok (.bipush 9, 2) := by decide +kernel
theorem dX4_trialCost_113 : decode cX4_trialCost 113 = .ok (.invokevirtual 98, 3) := by decide +kernel
theorem dX4_trialCost_116 : decode cX4_trialCost 116 = .ok (.aload_n 0, 1) := by decide +kernel
theorem dX4_trialCost_117 : decode cX4_trialCost 117 = .ok (.getfield 16, 3) := by decide +kernel
theorem dX4_trialCost_120 : decode cX4_trialCost 120 = .ok (.getfield 105, 3) := by decide +kernel
theorem dX4_trialCost_123 : decode cX4_trialCost 123 = .ok (.iconst 3, 1) := by decide +kernel
theorem dX4_trialCost_124 : decode cX4_trialCost 124 = .ok (.iaload, 1) := by decide +kernel
theorem dX4_trialCost_125 : decode cX4_trialCost 125 = .ok (.aload_n 0, 1) := by decide +kernel
theorem dX4_trialCost_126 : decode cX4_trialCost 126 = .ok (.getfield 16, 3) := by decide +kernel
theorem dX4_trialCost_129 : decode cX4_trialCost 129 = .ok (.bipush 6, 2) := by decide +kernel
theorem dX4_trialCost_131 : decode cX4_trialCost 131 = .ok (.invokevirtual 98, 3) := by decide +kernel
theorem dX4_trialCost_134 : decode cX4_trialCost 134 = .ok (.imul, 1) := by decide +kernel
theorem dX4_trialCost_135 : decode cX4_trialCost 135 = .ok (.iadd, 1) := by decide +kernel
theorem dX4_trialCost_136 : decode cX4_trialCost 136 = .ok (.ireturn, 1) := by decide +kernel
theorem dX4_carryOrder_0 : decode cX4_carryOrder 0 = .ok (.aload_n 0, 1) := by decide +kernel
theorem dX4_carryOrder_1 : decode cX4_carryOrder 1 = .ok (.getfield 37, 3) := by decide +kernel
theorem dX4_carryOrder_4 : decode cX4_carryOrder 4 = .ok (.getfield 173, 3) := by decide +kernel
theorem dX4_carryOrder_7 : decode cX4_carryOrder 7 = .ok (.lookupswitch 92 #[(102, 33), (113, 63), (116, 48)], 33) := by decide +kernel
theorem dX4_carryOrder_40 : decode cX4_carryOrder 40 = .ok (.aload_n 0, 1) := by decide +kernel
theorem dX4_carryOrder_41 : decode cX4_carryOrder 41 = .ok (.getfield 10, 3) := by decide +kernel
theorem dX4_carryOrder_44 : decode cX4_carryOrder 44 = .ok (.aload_n 0, 1) := by decide +kernel
theorem dX4_carryOrder_45 : decode cX4_carryOrder 45 = .ok (.getfield 37, 3) := by decide +kernel
theorem dX4_carryOrder_48 : decode cX4_carryOrder 48 = .ok (.getfield 177, 3) := by decide +kernel
theorem dX4_carryOrder_51 : decode cX4_carryOrder 51 = .ok (.invokevirtual 57, 3) := by decide +kernel
theorem dX4_carryOrder_54 : decode cX4_carryOrder 54 = .ok (.ireturn, 1) := by decide +kernel
theorem dX4_carryOrder_55 : decode cX4_carryOrder 55 = .ok (.aload_n 0, 1) := by decide +kernel
theorem dX4_carryOrder_56 : decode cX4_carryOrder 56 = .ok (.getfield 10, 3) := by decide +kernel
theorem dX4_carryOrder_59 : decode cX4_carryOrder 59 = .ok (.aload_n 0, 1) := by decide +kernel
theorem dX4_carryOrder_60 : decode cX4_carryOrder 60 = .ok (.getfield 37, 3) := by decide +kernel
theorem dX4_carryOrder_63 : decode cX4_carryOrder 63 = .ok (.getfield 177, 3) := by decide +kernel
theorem dX4_carryOrder_66 : decode cX4_carryOrder 66 = .ok (.invokevirtual 66, 3) := by decide +kernel
theorem dX4_carryOrder_69 : decode cX4_carryOrder 69 = .ok (.ireturn, 1) := by decide +kernel
theorem dX4_carryOrder_70 : decode cX4_carryOrder 70 = .ok (.aload_n 0, 1) := by decide +kernel
theorem dX4_carryOrder_71 : decode cX4_carryOrder 71 = .ok (.getfield 10, 3) := by decide +kernel
theorem dX4_carryOrder_74 : decode cX4_carryOrder 74 = .ok (.aload_n 0, 1) := by decide +kernel
theorem dX4_carryOrder_75 : decode cX4_carryOrder 75 = .ok (.getfield 37, 3) := by decide +kernel
theorem dX4_carryOrder_78 : decode cX4_carryOrder 78 = .ok (.getfield 177, 3) := by decide +kernel
theorem dX4_carryOrder_81 : decode cX4_carryOrder 81 = .ok (.aload_n 0, 1) := by decide +kernel
theorem dX4_carryOrder_82 : decode cX4_carryOrder 82 = .ok (.getfield 37, 3) := by decide +kernel
theorem dX4_carryOrder_85 : decode cX4_carryOrder 85 = .ok (.getfield 180, 3) := by decide +kernel
theorem dX4_carryOrder_88 : decode cX4_carryOrder 88 = .ok (.aload_n 0, 1) := by decide +kernel
theorem dX4_carryOrder_89 : decode cX4_carryOrder 89 = .ok (.getfield 37, 3) := by decide +kernel
theorem dX4_carryOrder_92 : decode cX4_carryOrder 92 = .ok (.getfield 183, 3) := by decide +kernel
theorem dX4_carryOrder_95 : decode cX4_carryOrder 95 = .ok (.invokevirtual 53, 3) := by decide +kernel
theorem dX4_carryOrder_98 : decode cX4_carryOrder 98 = .ok (.ireturn, 1) := by decide +kernel
theorem dX4_carryOrder_99 : decode cX4_carryOrder 99 = .ok (.aload_n 0, 1) := by decide +kernel
theorem dX4_carryOrder_100 : decode cX4_carryOrder 100 = .ok (.getfield 10, 3) := by decide +kernel
theorem dX4_carryOrder_103 : decode cX4_carryOrder 103 = .ok (.aload_n 0, 1) := by decide +kernel
theorem dX4_carryOrder_104 : decode cX4_carryOrder 104 = .ok (.getfield 37, 3) := by decide +kernel
theorem dX4_carryOrder_107 : decode cX4_carryOrder 107 = .ok (.getfield 177, 3) := by decide +kernel
theorem dX4_carryOrder_110 : decode cX4_carryOrder 110 = .ok (.invokevirtual 60, 3) := by decide +kernel
theorem dX4_carryOrder_113 : decode cX4_carryOrder 113 = .ok (.ireturn, 1) := by decide +kernel
theorem dX5_init_0 : decode cX5_init 0 = .ok (.aload_n 0, 1) := by decide +kernel
theorem dX5_init_1 : decode cX5_init 1 = .ok (.invokespecial 1, 3) := by decide +kernel
theorem dX5_init_4 : decode cX5_init 4 = .ok (.aload_n 0, 1) := by decide +kernel
theorem dX5_init_5 : decode cX5_init 5 = .ok (.sipush 1640, 3) := by decide +kernel
theorem dX5_init_8 : decode cX5_init 8 = .ok (.newarray .int, 2) := by decide +kernel
theorem dX5_init_10 : decode cX5_init 10 = .ok (.putfield 7, 3) := by decide +kernel
theorem dX5_init_13 : decode cX5_init 13 = .ok (.aload_n 0, 1) := by decide +kernel
theorem dX5_init_14 : decode cX5_init 14 = .ok (.sipush 1640, 3) := by decide +kernel
theorem dX5_init_17 : decode cX5_init 17 = .ok (.newarray .int, 2) := by decide +kernel
theorem dX5_init_19 : decode cX5_init 19 = .ok (.putfield 13, 3) := by decide +kernel
theorem dX5_init_22 : decode cX5_init 22 = .ok (.aload_n 0, 1) := by decide +kernel
theorem dX5_init_23 : decode cX5_init 23 = .ok (.sipush 9840, 3) := by decide +kernel
theorem dX5_init_26 : decode cX5_init 26 = .ok (.newarray .int, 2) := by decide +kernel
theorem dX5_init_28 : decode cX5_init 28 = .ok (.putfield 16, 3) := by decide +kernel
theorem dX5_init_31 : decode cX5_init 31 = .ok (.aload_n 0, 1) := by decide +kernel
theorem dX5_init_32 : decode cX5_init 32 = .ok (.sipush 3280, 3) := by decide +kernel
theorem dX5_init_35 : decode cX5_init 35 = .ok (.newarray .int, 2) := by decide +kernel
theorem dX5_init_37 : decode cX5_init 37 = .ok (.putfield 19, 3) := by decide +kernel
theorem dX5_init_40 : decode cX5_init 40 = .ok (.aload_n 0, 1) := by decide +kernel
theorem dX5_init_41 : decode cX5_init 41 = .ok (.iconst 2, 1) := by decide +kernel
theorem dX5_init_42 : decode cX5_init 42 = .ok (.newarray .int, 2) := by decide +kernel
theorem dX5_init_44 : decode cX5_init 44 = .ok (.putfield 22, 3) := by decide +kernel
theorem dX5_init_47 : decode cX5_init 47 = .ok (.aload_n 0, 1) := by decide +kernel
theorem dX5_init_48 : decode cX5_init 48 = .ok (.bipush 80, 2) := by decide +kernel
theorem dX5_init_50 : decode cX5_init 50 = .ok (.newarray .int, 2) := by decide +kernel
theorem dX5_init_52 : decode cX5_init 52 = .ok (.putfield 25, 3) := by decide +kernel
theorem dX5_init_55 : decode cX5_init 55 = .ok (.aload_n 0, 1) := by decide +kernel
theorem dX5_init_56 : decode cX5_init 56 = .ok (.iconst 3, 1) := by decide +kernel
theorem dX5_init_57 : decode cX5_init 57 = .ok (.newarray .int, 2) := by decide +kernel
theorem dX5_init_59 : decode cX5_init 59 = .ok (.putfield 28, 3) := by decide +kernel
theorem dX5_init_62 : decode cX5_init 62 = .ok (.aload_n 0, 1) := by decide +kernel
theorem dX5_init_63 : decode cX5_init 63 = .ok (.getfield 7, 3) := by decide +kernel
theorem dX5_init_66 : decode cX5_init 66 = .ok (.iconst 0, 1) := by decide +kernel
theorem dX5_init_67 : decode cX5_init 67 = .ok (.bipush 16, 2) := by decide +kernel
theorem dX5_init_69 : decode cX5_init 69 = .ok (.iastore, 1) := by decide +kernel
theorem dX5_init_70 : decode cX5_init 70 = .ok (.aload_n 0, 1) := by decide +kernel
theorem dX5_init_71 : decode cX5_init 71 = .ok (.getfield 7, 3) := by decide +kernel
theorem dX5_init_74 : decode cX5_init 74 = .ok (.iconst 1, 1) := by decide +kernel
theorem dX5_init_75 : decode cX5_init 75 = .ok (.iconst 4, 1) := by decide +kernel
theorem dX5_init_76 : decode cX5_init 76 = .ok (.iastore, 1) := by decide +kernel
theorem dX5_init_77 : decode cX5_init 77 = .ok (.aload_n 0, 1) := by decide +kernel
theorem dX5_init_78 : decode cX5_init 78 = .ok (.getfield 7, 3) := by decide +kernel
theorem dX5_init_81 : decode cX5_init 81 = .ok (.iconst 3, 1) := by decide +kernel
theorem dX5_init_82 : decode cX5_init 82 = .ok (.bipush 6, 2) := by decide +kernel
theorem dX5_init_84 : decode cX5_init 84 = .ok (.iastore, 1) := by decide +kernel
theorem dX5_init_85 : decode cX5_init 85 = .ok (.iconst 0, 1) := by decide +kernel
theorem dX5_init_86 : decode cX5_init 86 = .ok (.istore_n 1, 1) := by decide +kernel
theorem dX5_init_87 : decode cX5_init 87 = .ok (.iload_n 1, 1) := by decide +kernel
theorem dX5_init_88 : decode cX5_init 88 = .ok (.iconst 3, 1) := by decide +kernel
theorem dX5_init_89 : decode cX5_init 89 = .ok (.if_icmp .ge 40, 3) := by decide +kernel
theorem dX5_init_92 : decode cX5_init 92 = .ok (.aload_n 0, 1) := by decide +kernel
theorem dX5_init_93 : decode cX5_init 93 = .ok (.iload_n 1, 1) := by decide +kernel
theorem dX5_init_94 : decode cX5_init 94 = .ok (.iconst 0, 1) := by decide +kernel
theorem dX5_init_95 : decode cX5_init 95 = .ok (.iconst 4, 1) := by decide +kernel
theorem dX5_init_96 : decode cX5_init 96 = .ok (.invokevirtual 31, 3) := by decide +kernel
theorem dX5_init_99 : decode cX5_init 99 = .ok (.aload_n 0, 1) := by decide +kernel
theorem dX5_init_100 : decode cX5_init 100 = .ok (.iload_n 1, 1) := by decide +kernel
theorem dX5_init_101 : decode cX5_init 101 = .ok (.iconst 1, 1) := by decide +kernel
theorem dX5_init_102 : decode cX5_init 102 = .ok (.bipush 10, 2) := by decide +kernel
theorem dX5_init_104 : decode cX5_init 104 = .ok (.invokevirtual 31, 3) := by decide +kernel
theorem dX5_init_107 : decode cX5_init 107 = .ok (.aload_n 0, 1) := by decide +kernel
theorem dX5_init_108 : decode cX5_init 108 = .ok (.iload_n 1, 1) := by decide +kernel
theorem dX5_init_109 : decode cX5_init 109 = .ok (.iconst 2, 1) := by decide +kernel
theorem dX5_init_110 : decode cX5_init 110 = .ok (.iconst 4, 1) := by decide +kernel
theorem dX5_init_111 : decode cX5_init 111 = .ok (.invokevirtual 31, 3) := by decide +kernel
theorem dX5_init_114 : decode cX5_init 114 = .ok (.aload_n 0, 1) := by decide +kernel
theorem dX5_init_115 : decode cX5_init 115 = .ok (.iload_n 1, 1) := by decide +kernel
theorem dX5_init_116 : decode cX5_init 116 = .ok (.bipush 8, 2) := by decide +kernel
theorem dX5_init_118 : decode cX5_init 118 = .ok (.bipush (-6), 2) := by decide +kernel
theorem dX5_init_120 : decode cX5_init 120 = .ok (.invokevirtual 31, 3) := by decide +kernel
theorem dX5_init_123 : decode cX5_init 123 = .ok (.iinc 1 1, 3) := by decide +kernel
theorem dX5_init_126 : decode cX5_init 126 = .ok (.goto (-39), 3) := by decide +kernel
theorem dX5_init_129 : decode cX5_init 129 = .ok (.return_, 1) := by decide +kernel
theorem dX5_in_0 : decode cX5_in 0 = .ok (.lload_n 0, 1) := by decide +kernel
theorem dX5_in_1 : decode cX5_in 1 = .ok (.lload_n 2, 1) := by decide +kernel
theorem dX5_in_2 : decode cX5_in 2 = .ok (.lcmp, 1) := by decide +kernel
theorem dX5_in_3 : decode cX5_in 3 = .ok (.ifCond .lt 14, 3) := by decide +kernel
theorem dX5_in_6 : decode cX5_in 6 = .ok (.lload_n 0, 1) := by decide +kernel
theorem dX5_in_7 : decode cX5_in 7 = .ok (.lload 4, 2) := by decide +kernel
theorem dX5_in_9 : decode cX5_in 9 = .ok (.lcmp, 1) := by decide +kernel
theorem dX5_in_10 : decode cX5_in 10 = .ok (.ifCond .gt 7, 3) := by decide +kernel
theorem dX5_in_13 : decode cX5_in 13 = .ok (.iconst 1, 1) := by decide +kernel
theorem dX5_in_14 : decode cX5_in 14 = .ok (.goto 4, 3) := by decide +kernel
theorem dX5_in_17 : decode cX5_in 17 = .ok (.iconst 0, 1) := by decide +kernel
theorem dX5_in_18 : decode cX5_in 18 = .ok (.ireturn, 1) := by decide +kernel
theorem dX5_changes_0 : decode cX5_changes 0 = .ok (.aload_n 0, 1) := by decide +kernel
theorem dX5_changes_1 : decode cX5_changes 1 = .ok (.getfield 35, 3) := by decide +kernel
theorem dX5_changes_4 : decode cX5_changes 4 = .ok (.bipush 6, 2) := by decide +kernel
theorem dX5_changes_6 : decode cX5_changes 6 = .ok (.if_icmp .ne 44, 3) := by decide +kernel
theorem dX5_changes_9 : decode cX5_changes 9 = .ok (.iconst 0, 1) := by decide +kernel
theorem dX5_changes_10 : decode cX5_changes 10 = .ok (.istore_n 1, 1) := by decide +kernel
theorem dX5_changes_11 : decode cX5_changes 11 = .ok (.iload_n 1, 1) := by decide +kernel
theorem dX5_changes_12 : decode cX5_changes 12 = .ok (.sipush 8200, 3) := by decide +kernel
theorem dX5_changes_15 : decode cX5_changes 15 = .ok (.if_icmp .ge 25, 3) := by decide +kernel
theorem dX5_changes_18 : decode cX5_changes 18 = .ok (.aload_n 0, 1) := by decide +kernel
theorem dX5_changes_19 : decode cX5_changes 19 = .ok (.getfield 16, 3) := by decide +kernel
theorem dX5_changes_22 : decode cX5_changes 22 = .ok (.iload_n 1, 1) := by decide +kernel
theorem dX5_changes_23 : decode cX5_changes 23 = .ok (.aload_n 0, 1) := by decide +kernel
theorem dX5_changes_24 : decode cX5_changes 24 = .ok (.getfield 16, 3) := by decide +kernel
theorem dX5_changes_27 : decode cX5_changes 27 = .ok (.iload_n 1, 1) := by decide +kernel
theorem dX5_changes_28 : decode cX5_changes 28 = .ok (.sipush 1640, 3) := by decide +kernel
theorem dX5_changes_31 : decode cX5_changes 31 = .ok (.iadd, 1) := by decide +kernel
theorem dX5_changes_32 : decode cX5_changes 32 = .ok (.iaload, 1) := by decide +kernel
theorem dX5_changes_33 : decode cX5_changes 33 = .ok (.iastore, 1) := by decide +kernel
theorem dX5_changes_34 : decode cX5_changes 34 = .ok (.iinc 1 1, 3) := by decide +kernel
theorem dX5_changes_37 : decode cX5_changes 37 = .ok (.goto (-26), 3) := by decide +kernel
theorem dX5_changes_40 : decode cX5_changes 40 = .ok (.aload_n 0, 1) := by decide +kernel
theorem dX5_changes_41 : decode cX5_changes 41 = .ok (.dup, 1) := by decide +kernel
theorem dX5_changes_42 : decode cX5_changes 42 = .ok (.getfield 35, 3) := by decide +kernel
theorem dX5_changes_45 : decode cX5_changes 45 = .ok (.iconst 1, 1) := by decide +kernel
theorem dX5_changes_46 : decode cX5_changes 46 = .ok (.isub, 1) := by decide +kernel
theorem dX5_changes_47 : decode cX5_changes 47 = .ok (.putfield 35, 3) := by decide +kernel
theorem dX5_changes_50 : decode cX5_changes 50 = .ok (.iconst 0, 1) := by decide +kernel
theorem dX5_changes_51 : decode cX5_changes 51 = .ok (.istore_n 1, 1) := by decide +kernel
theorem dX5_changes_52 : decode cX5_changes 52 = .ok (.iload_n 1, 1) := by decide +kernel
theorem dX5_changes_53 : decode cX5_changes 53 = .ok (.sipush 1640, 3) := by decide +kernel
theorem dX5_changes_56 : decode cX5_changes 56 = .ok (.if_icmp .ge 30, 3) := by decide +kernel
theorem dX5_changes_59 : decode cX5_changes 59 = .ok (.aload_n 0, 1) := by decide +kernel
theorem dX5_changes_60 : decode cX5_changes 60 = .ok (.getfield 16, 3) := by decide +kernel
theorem dX5_changes_63 : decode cX5_changes 63 = .ok (.sipush 1640, 3) := by decide +kernel
theorem dX5_changes_66 : decode cX5_changes 66 = .ok (.aload_n 0, 1) := by decide +kernel
theorem dX5_changes_67 : decode cX5_changes 67 = .ok (.getfield 35, 3) := by decide +kernel
theorem dX5_changes_70 : decode cX5_changes 70 = .ok (.imul, 1) := by decide +kernel
theorem dX5_changes_71 : decode cX5_changes 71 = .ok (.iload_n 1, 1) := by decide +kernel
theorem dX5_changes_72 : decode cX5_changes 72 = .ok (.iadd, 1) := by decide +kernel
theorem dX5_changes_73 : decode cX5_changes 73 = .ok (.aload_n 0, 1) := by decide +kernel
theorem dX5_changes_74 : decode cX5_changes 74 = .ok (.getfield 7, 3) := by decide +kernel
theorem dX5_changes_77 : decode cX5_changes 77 = .ok (.iload_n 1, 1) := by decide +kernel
theorem dX5_changes_78 : decode cX5_changes 78 = .ok (.iaload, 1) := by decide +kernel
theorem dX5_changes_79 : decode cX5_changes 79 = .ok (.iastore, 1) := by decide +kernel
theorem dX5_changes_80 : decode cX5_changes 80 = .ok (.iinc 1 1, 3) := by decide +kernel
theorem dX5_changes_83 : decode cX5_changes 83 = .ok (.goto (-31), 3) := by decide +kernel
theorem dX5_changes_86 : decode cX5_changes 86 = .ok (.aload_n 0, 1) := by decide +kernel
theorem dX5_changes_87 : decode cX5_changes 87 = .ok (.dup, 1) := by decide +kernel
theorem dX5_changes_88 : decode cX5_changes 88 = .ok (.getfield 35, 3) := by decide +kernel
theorem dX5_changes_91 : decode cX5_changes 91 = .ok (.iconst 1, 1) := by decide +kernel
theorem dX5_changes_92 : decode cX5_changes 92 = .ok (.iadd, 1) := by decide +kernel
theorem dX5_changes_93 : decode cX5_changes 93 = .ok (.putfield 35, 3) := by decide +kernel
theorem dX5_changes_96 : decode cX5_changes 96 = .ok (.return_, 1) := by decide +kernel
theorem dX5_keeps_0 : decode cX5_keeps 0 = .ok (.iconst 0, 1) := by decide +kernel
theorem dX5_keeps_1 : decode cX5_keeps 1 = .ok (.istore_n 1, 1) := by decide +kernel
theorem dX5_keeps_2 : decode cX5_keeps 2 = .ok (.iload_n 1, 1) := by decide +kernel
theorem dX5_keeps_3 : decode cX5_keeps 3 = .ok (.sipush 1640, 3) := by decide +kernel
theorem dX5_keeps_6 : decode cX5_keeps 6 = .ok (.if_icmp .ge 21, 3) := by decide +kernel
theorem dX5_keeps_9 : decode cX5_keeps 9 = .ok (.aload_n 0, 1) := by decide +kernel
theorem dX5_keeps_10 : decode cX5_keeps 10 = .ok (.getfield 13, 3) := by decide +kernel
theorem dX5_keeps_13 : decode cX5_keeps 13 = .ok (.iload_n 1, 1) := by decide +kernel
theorem dX5_keeps_14 : decode cX5_keeps 14 = .ok (.aload_n 0, 1) := by decide +kernel
theorem dX5_keeps_15 : decode cX5_keeps 15 = .ok (.getfield 7, 3) := by decide +kernel
theorem dX5_keeps_18 : decode cX5_keeps 18 = .ok (.iload_n 1, 1) := by decide +kernel
theorem dX5_keeps_19 : decode cX5_keeps 19 = .ok (.iaload, 1) := by decide +kernel
theorem dX5_keeps_20 : decode cX5_keeps 20 = .ok (.iastore, 1) := by decide +kernel
theorem dX5_keeps_21 : decode cX5_keeps 21 = .ok (.iinc 1 1, 3) := by decide +kernel
theorem dX5_keeps_24 : decode cX5_keeps 24 = .ok (.goto (-22), 3) := by decide +kernel
theorem dX5_keeps_27 : decode cX5_keeps 27 = .ok (.return_, 1) := by decide +kernel
theorem dX5_comesBack_0 : decode cX5_comesBack 0 = .ok (.iconst 0, 1) := by decide +kernel
theorem dX5_comesBack_1 : decode cX5_comesBack 1 = .ok (.istore_n 1, 1) := by decide +kernel
theorem dX5_comesBack_2 : decode cX5_comesBack 2 = .ok (.iload_n 1, 1) := by decide +kernel
theorem dX5_comesBack_3 : decode cX5_comesBack 3 = .ok (.sipush 1640, 3) := by decide +kernel
theorem dX5_comesBack_6 : decode cX5_comesBack 6 = .ok (.if_icmp .ge 21, 3) := by decide +kernel
theorem dX5_comesBack_9 : decode cX5_comesBack 9 = .ok (.aload_n 0, 1) := by decide +kernel
theorem dX5_comesBack_10 : decode cX5_comesBack 10 = .ok (.getfield 7, 3) := by decide +kernel
theorem dX5_comesBack_13 : decode cX5_comesBack 13 = .ok (.iload_n 1, 1) := by decide +kernel
theorem dX5_comesBack_14 : decode cX5_comesBack 14 = .ok (.aload_n 0, 1) := by decide +kernel
theorem dX5_comesBack_15 : decode cX5_comesBack 15 = .ok (.getfield 13, 3) := by decide +kernel
theorem dX5_comesBack_18 : decode cX5_comesBack 18 = .ok (.iload_n 1, 1) := by decide +kernel
theorem dX5_comesBack_19 : decode cX5_comesBack 19 = .ok (.iaload, 1) := by decide +kernel
theorem dX5_comesBack_20 : decode cX5_comesBack 20 = .ok (.iastore, 1) := by decide +kernel
theorem dX5_comesBack_21 : decode cX5_comesBack 21 = .ok (.iinc 1 1, 3) := by decide +kernel
theorem dX5_comesBack_24 : decode cX5_comesBack 24 = .ok (.goto (-22), 3) := by decide +kernel
theorem dX5_comesBack_27 : decode cX5_comesBack 27 = .ok (.return_, 1) := by decide +kernel
theorem dX5_isQueue_0 : decode cX5_isQueue 0 = .ok (.iload_n 0, 1) := by decide +kernel
theorem dX5_isQueue_1 : decode cX5_isQueue 1 = .ok (.i2l, 1) := by decide +kernel
theorem dX5_isQueue_2 : decode cX5_isQueue 2 = .ok (.lconst 0, 1) := by decide +kernel
theorem dX5_isQueue_3 : decode cX5_isQueue 3 = .ok (.ldc2_w 39, 3) := by decide +kernel
theorem dX5_isQueue_6 : decode cX5_isQueue 6 = .ok (.invokestatic 41, 3) := by decide +kernel
theorem dX5_isQueue_9 : decode cX5_isQueue 9 = .ok (.ireturn, 1) := by decide +kernel
theorem dX5_get_0 : decode cX5_get 0 = .ok (.aload_n 0, 1) := by decide +kernel
theorem dX5_get_1 : decode cX5_get 1 = .ok (.getfield 7, 3) := by decide +kernel
theorem dX5_get_4 : decode cX5_get 4 = .ok (.bipush 10, 2) := by decide +kernel
theorem dX5_get_6 : decode cX5_get 6 = .ok (.bipush 10, 2) := by decide +kernel
theorem dX5_get_8 : decode cX5_get 8 = .ok (.iload_n 1, 1) := by decide +kernel
theorem dX5_get_9 : decode cX5_get 9 = .ok (.imul, 1) := by decide +kernel
theorem dX5_get_10 : decode cX5_get 10 = .ok (.iadd, 1) := by decide +kernel
theorem dX5_get_11 : decode cX5_get 11 = .ok (.iload_n 2, 1) := by decide +kernel
theorem dX5_get_12 : decode cX5_get 12 = .ok (.iadd, 1) := by decide +kernel
theorem dX5_get_13 : decode cX5_get 13 = .ok (.iaload, 1) := by decide +kernel
theorem dX5_get_14 : decode cX5_get 14 = .ok (.ireturn, 1) := by decide +kernel
theorem dX5_lays_0 : decode cX5_lays 0 = .ok (.aload_n 0, 1) := by decide +kernel
theorem dX5_lays_1 : decode cX5_lays 1 = .ok (.getfield 7, 3) := by decide +kernel
theorem dX5_lays_4 : decode cX5_lays 4 = .ok (.bipush 10, 2) := by decide +kernel
theorem dX5_lays_6 : decode cX5_lays 6 = .ok (.bipush 10, 2) := by decide +kernel
theorem dX5_lays_8 : decode cX5_lays 8 = .ok (.iload_n 1, 1) := by decide +kernel
theorem dX5_lays_9 : decode cX5_lays 9 = .ok (.imul, 1) := by decide +kernel
theorem dX5_lays_10 : decode cX5_lays 10 = .ok (.iadd, 1) := by decide +kernel
theorem dX5_lays_11 : decode cX5_lays 11 = .ok (.iload_n 2, 1) := by decide +kernel
theorem dX5_lays_12 : decode cX5_lays 12 = .ok (.iadd, 1) := by decide +kernel
theorem dX5_lays_13 : decode cX5_lays 13 = .ok (.iload_n 3, 1) := by decide +kernel
theorem dX5_lays_14 : decode cX5_lays 14 = .ok (.iastore, 1) := by decide +kernel
theorem dX5_lays_15 : decode cX5_lays 15 = .ok (.return_, 1) := by decide +kernel
theorem dX5_more_0 : decode cX5_more 0 = .ok (.aload_n 0, 1) := by decide +kernel
theorem dX5_more_1 : decode cX5_more 1 = .ok (.getfield 7, 3) := by decide +kernel
theorem dX5_more_4 : decode cX5_more 4 = .ok (.bipush 10, 2) := by decide +kernel
theorem dX5_more_6 : decode cX5_more 6 = .ok (.bipush 10, 2) := by decide +kernel
theorem dX5_more_8 : decode cX5_more 8 = .ok (.iload_n 1, 1) := by decide +kernel
theorem dX5_more_9 : decode cX5_more 9 = .ok (.imul, 1) := by decide +kernel
theorem dX5_more_10 : decode cX5_more 10 = .ok (.iadd, 1) := by decide +kernel
theorem dX5_more_11 : decode cX5_more 11 = .ok (.iload_n 2, 1) := by decide +kernel
theorem dX5_more_12 : decode cX5_more 12 = .ok (.iadd, 1) := by decide +kernel
theorem dX5_more_13 : decode cX5_more 13 = .ok (.dup2, 1) := by decide +kernel
theorem dX5_more_14 : decode cX5_more 14 = .ok (.iaload, 1) := by decide +kernel
theorem dX5_more_15 : decode cX5_more 15 = .ok (.iload_n 3, 1) := by decide +kernel
theorem dX5_more_16 : decode cX5_more 16 = .ok (.iadd, 1) := by decide +kernel
theorem dX5_more_17 : decode cX5_more 17 = .ok (.iastore, 1) := by decide +kernel
theorem dX5_more_18 : decode cX5_more 18 = .ok (.return_, 1) := by decide +kernel
theorem dX5_frameAt_0 : decode cX5_frameAt 0 = .ok (.aload_n 0, 1) := by decide +kernel
theorem dX5_frameAt_1 : decode cX5_frameAt 1 = .ok (.getfield 7, 3) := by decide +kernel
theorem dX5_frameAt_4 : decode cX5_frameAt 4 = .ok (.bipush 40, 2) := by decide +kernel
theorem dX5_frameAt_6 : decode cX5_frameAt 6 = .ok (.iconst 4, 1) := by decide +kernel
theorem dX5_frameAt_7 : decode cX5_frameAt 7 = .ok (.iload_n 1, 1) := by decide +kernel
theorem dX5_frameAt_8 : decode cX5_frameAt 8 = .ok (.imul, 1) := by decide +kernel
theorem dX5_frameAt_9 : decode cX5_frameAt 9 = .ok (.iadd, 1) := by decide +kernel
theorem dX5_frameAt_10 : decode cX5_frameAt 10 = .ok (.iload_n 2, 1) := by decide +kernel
theorem dX5_frameAt_11 : decode cX5_frameAt 11 = .ok (.iadd, 1) := by decide +kernel
theorem dX5_frameAt_12 : decode cX5_frameAt 12 = .ok (.iaload, 1) := by decide +kernel
theorem dX5_frameAt_13 : decode cX5_frameAt 13 = .ok (.ireturn, 1) := by decide +kernel
theorem dX5_isInRing_0 : decode cX5_isInRing 0 = .ok (.aload_n 0, 1) := by decide +kernel
theorem dX5_isInRing_1 : decode cX5_isInRing 1 = .ok (.iload_n 1, 1) := by decide +kernel
theorem dX5_isInRing_2 : decode cX5_isInRing 2 = .ok (.iconst 2, 1) := by decide +kernel
theorem dX5_isInRing_3 : decode cX5_isInRing 3 = .ok (.invokevirtual 45, 3) := by decide +kernel
theorem dX5_isInRing_6 : decode cX5_isInRing 6 = .ok (.ifCond .ne 19, 3) := by decide +kernel
theorem dX5_isInRing_9 : decode cX5_isInRing 9 = .ok (.aload_n 0, 1) := by decide +kernel
theorem dX5_isInRing_10 : decode cX5_isInRing 10 = .ok (.iload_n 1, 1) := by decide +kernel
theorem dX5_isInRing_11 : decode cX5_isInRing 11 = .ok (.iconst 0, 1) := by decide +kernel
theorem dX5_isInRing_12 : decode cX5_isInRing 12 = .ok (.invokevirtual 45, 3) := by decide +kernel
theorem dX5_isInRing_15 : decode cX5_isInRing 15 = .ok (.iconst 3, 1) := by decide +kernel
theorem dX5_isInRing_16 : decode cX5_isInRing 16 = .ok (.irem, 1) := by decide +kernel
theorem dX5_isInRing_17 : decode cX5_isInRing 17 = .ok (.iload_n 2, 1) := by decide +kernel
theorem dX5_isInRing_18 : decode cX5_isInRing 18 = .ok (.if_icmp .ne 7, 3) := by decide +kernel
theorem dX5_isInRing_21 : decode cX5_isInRing 21 = .ok (.iconst 1, 1) := by decide +kernel
theorem dX5_isInRing_22 : decode cX5_isInRing 22 = .ok (.goto 4, 3) := by decide +kernel
theorem dX5_isInRing_25 : decode cX5_isInRing 25 = .ok (.iconst 0, 1) := by decide +kernel
theorem dX5_isInRing_26 : decode cX5_isInRing 26 = .ok (.ireturn, 1) := by decide +kernel
theorem dX5_ring_0 : decode cX5_ring 0 = .ok (.iconst 0, 1) := by decide +kernel
theorem dX5_ring_1 : decode cX5_ring 1 = .ok (.istore_n 2, 1) := by decide +kernel
theorem dX5_ring_2 : decode cX5_ring 2 = .ok (.iconst 0, 1) := by decide +kernel
theorem dX5_ring_3 : decode cX5_ring 3 = .ok (.istore_n 3, 1) := by decide +kernel
theorem dX5_ring_4 : decode cX5_ring 4 = .ok (.iload_n 3, 1) := by decide +kernel
theorem dX5_ring_5 : decode cX5_ring 5 = .ok (.aload_n 0, 1) := by decide +kernel
theorem dX5_ring_6 : decode cX5_ring 6 = .ok (.getfield 7, 3) := by decide +kernel
theorem dX5_ring_9 : decode cX5_ring 9 = .ok (.iconst 5, 1) := by decide +kernel
theorem dX5_ring_10 : decode cX5_ring 10 = .ok (.iaload, 1) := by decide +kernel
theorem dX5_ring_11 : decode cX5_ring 11 = .ok (.if_icmp .ge 26, 3) := by decide +kernel
theorem dX5_ring_14 : decode cX5_ring 14 = .ok (.iload_n 2, 1) := by decide +kernel
theorem dX5_ring_15 : decode cX5_ring 15 = .ok (.aload_n 0, 1) := by decide +kernel
theorem dX5_ring_16 : decode cX5_ring 16 = .ok (.iload_n 3, 1) := by decide +kernel
theorem dX5_ring_17 : decode cX5_ring 17 = .ok (.iload_n 1, 1) := by decide +kernel
theorem dX5_ring_18 : decode cX5_ring 18 = .ok (.invokevirtual 49, 3) := by decide +kernel
theorem dX5_ring_21 : decode cX5_ring 21 = .ok (.ifCond .eq 7, 3) := by decide +kernel
theorem dX5_ring_24 : decode cX5_ring 24 = .ok (.iconst 1, 1) := by decide +kernel
theorem dX5_ring_25 : decode cX5_ring 25 = .ok (.goto 4, 3) := by decide +kernel
theorem dX5_ring_28 : decode cX5_ring 28 = .ok (.iconst 0, 1) := by decide +kernel
theorem dX5_ring_29 : decode cX5_ring 29 = .ok (.iadd, 1) := by decide +kernel
theorem dX5_ring_30 : decode cX5_ring 30 = .ok (.istore_n 2, 1) := by decide +kernel
theorem dX5_ring_31 : decode cX5_ring 31 = .ok (.iinc 3 1, 3) := by decide +kernel
theorem dX5_ring_34 : decode cX5_ring 34 = .ok (.goto (-30), 3) := by decide +kernel
theorem dX5_ring_37 : decode cX5_ring 37 = .ok (.iload_n 2, 1) := by decide +kernel
theorem dX5_ring_38 : decode cX5_ring 38 = .ok (.ireturn, 1) := by decide +kernel
theorem dX5_oldest_0 : decode cX5_oldest 0 = .ok (.iconst 0, 1) := by decide +kernel
theorem dX5_oldest_1 : decode cX5_oldest 1 = .ok (.istore_n 2, 1) := by decide +kernel
theorem dX5_oldest_2 : decode cX5_oldest 2 = .ok (.iload_n 2, 1) := by decide +kernel
theorem dX5_oldest_3 : decode cX5_oldest 3 = .ok (.aload_n 0, 1) := by decide +kernel
theorem dX5_oldest_4 : decode cX5_oldest 4 = .ok (.getfield 7, 3) := by decide +kernel
theorem dX5_oldest_7 : decode cX5_oldest 7 = .ok (.iconst 5, 1) := by decide +kernel
theorem dX5_oldest_8 : decode cX5_oldest 8 = .ok (.iaload, 1) := by decide +kernel
theorem dX5_oldest_9 : decode cX5_oldest 9 = .ok (.if_icmp .ge 20, 3) := by decide +kernel
theorem dX5_oldest_12 : decode cX5_oldest 12 = .ok (.aload_n 0, 1) := by decide +kernel
theorem dX5_oldest_13 : decode cX5_oldest 13 = .ok (.iload_n 2, 1) := by decide +kernel
theorem dX5_oldest_14 : decode cX5_oldest 14 = .ok (.iload_n 1, 1) := by decide +kernel
theorem dX5_oldest_15 : decode cX5_oldest 15 = .ok (.invokevirtual 49, 3) := by decide +kernel
theorem dX5_oldest_18 : decode cX5_oldest 18 = .ok (.ifCond .eq 5, 3) := by decide +kernel
theorem dX5_oldest_21 : decode cX5_oldest 21 = .ok (.iload_n 2, 1) := by decide +kernel
theorem dX5_oldest_22 : decode cX5_oldest 22 = .ok (.ireturn, 1) := by decide +kernel
theorem dX5_oldest_23 : decode cX5_oldest 23 = .ok (.iinc 2 1, 3) := by decide +kernel
theorem dX5_oldest_26 : decode cX5_oldest 26 = .ok (.goto (-24), 3) := by decide +kernel
theorem dX5_oldest_29 : decode cX5_oldest 29 = .ok (.bipush (-6), 2) := by decide +kernel
theorem dX5_oldest_31 : decode cX5_oldest 31 = .ok (.ireturn, 1) := by decide +kernel
theorem dX5_placeInRow_0 : decode cX5_placeInRow 0 = .ok (.iconst 0, 1) := by decide +kernel
theorem dX5_placeInRow_1 : decode cX5_placeInRow 1 = .ok (.istore_n 2, 1) := by decide +kernel
theorem dX5_placeInRow_2 : decode cX5_placeInRow 2 = .ok (.iload_n 2, 1) := by decide +kernel
theorem dX5_placeInRow_3 : decode cX5_placeInRow 3 = .ok (.aload_n 0, 1) := by decide +kernel
theorem dX5_placeInRow_4 : decode cX5_placeInRow 4 = .ok (.getfield 7, 3) := by decide +kernel
theorem dX5_placeInRow_7 : decode cX5_placeInRow 7 = .ok (.bipush 6, 2) := by decide +kernel
theorem dX5_placeInRow_9 : decode cX5_placeInRow 9 = .ok (.iaload, 1) := by decide +kernel
theorem dX5_placeInRow_10 : decode cX5_placeInRow 10 = .ok (.if_icmp .ge 24, 3) := by decide +kernel
theorem dX5_placeInRow_13 : decode cX5_placeInRow 13 = .ok (.aload_n 0, 1) := by decide +kernel
theorem dX5_placeInRow_14 : decode cX5_placeInRow 14 = .ok (.getfield 7, 3) := by decide +kernel
theorem dX5_placeInRow_17 : decode cX5_placeInRow 17 = .ok (.bipush 7, 2) := by decide +kernel
theorem dX5_placeInRow_19 : decode cX5_placeInRow 19 = .ok (.iload_n 2, 1) := by decide +kernel
theorem dX5_placeInRow_20 : decode cX5_placeInRow 20 = .ok (.iadd, 1) := by decide +kernel
theorem dX5_placeInRow_21 : decode cX5_placeInRow 21 = .ok (.iaload, 1) := by decide +kernel
theorem dX5_placeInRow_22 : decode cX5_placeInRow 22 = .ok (.iload_n 1, 1) := by decide +kernel
theorem dX5_placeInRow_23 : decode cX5_placeInRow 23 = .ok (.if_icmp .ne 5, 3) := by decide +kernel
theorem dX5_placeInRow_26 : decode cX5_placeInRow 26 = .ok (.iload_n 2, 1) := by decide +kernel
theorem dX5_placeInRow_27 : decode cX5_placeInRow 27 = .ok (.ireturn, 1) := by decide +kernel
theorem dX5_placeInRow_28 : decode cX5_placeInRow 28 = .ok (.iinc 2 1, 3) := by decide +kernel
theorem dX5_placeInRow_31 : decode cX5_placeInRow 31 = .ok (.goto (-29), 3) := by decide +kernel
theorem dX5_placeInRow_34 : decode cX5_placeInRow 34 = .ok (.bipush (-6), 2) := by decide +kernel
theorem dX5_placeInRow_36 : decode cX5_placeInRow 36 = .ok (.ireturn, 1) := by decide +kernel
theorem dX5_allOf_0 : decode cX5_allOf 0 = .ok (.aload_n 0, 1) := by decide +kernel
theorem dX5_allOf_1 : decode cX5_allOf 1 = .ok (.iconst 0, 1) := by decide +kernel
theorem dX5_allOf_2 : decode cX5_allOf 2 = .ok (.iload_n 1, 1) := by decide +kernel
theorem dX5_allOf_3 : decode cX5_allOf 3 = .ok (.invokevirtual 53, 3) := by decide +kernel
theorem dX5_allOf_6 : decode cX5_allOf 6 = .ok (.aload_n 0, 1) := by decide +kernel
theorem dX5_allOf_7 : decode cX5_allOf 7 = .ok (.iconst 1, 1) := by decide +kernel
theorem dX5_allOf_8 : decode cX5_allOf 8 = .ok (.iload_n 1, 1) := by decide +kernel
theorem dX5_allOf_9 : decode cX5_allOf 9 = .ok (.invokevirtual 53, 3) := by decide +kernel
theorem dX5_allOf_12 : decode cX5_allOf 12 = .ok (.iadd, 1) := by decide +kernel
theorem dX5_allOf_13 : decode cX5_allOf 13 = .ok (.aload_n 0, 1) := by decide +kernel
theorem dX5_allOf_14 : decode cX5_allOf 14 = .ok (.iconst 2, 1) := by decide +kernel
theorem dX5_allOf_15 : decode cX5_allOf 15 = .ok (.iload_n 1, 1) := by decide +kernel
theorem dX5_allOf_16 : decode cX5_allOf 16 = .ok (.invokevirtual 53, 3) := by decide +kernel
theorem dX5_allOf_19 : decode cX5_allOf 19 = .ok (.iadd, 1) := by decide +kernel
theorem dX5_allOf_20 : decode cX5_allOf 20 = .ok (.ireturn, 1) := by decide +kernel
theorem dX5_inRings_0 : decode cX5_inRings 0 = .ok (.aload_n 0, 1) := by decide +kernel
theorem dX5_inRings_1 : decode cX5_inRings 1 = .ok (.iconst 0, 1) := by decide +kernel
theorem dX5_inRings_2 : decode cX5_inRings 2 = .ok (.invokevirtual 56, 3) := by decide +kernel
theorem dX5_inRings_5 : decode cX5_inRings 5 = .ok (.aload_n 0, 1) := by decide +kernel
theorem dX5_inRings_6 : decode cX5_inRings 6 = .ok (.iconst 1, 1) := by decide +kernel
theorem dX5_inRings_7 : decode cX5_inRings 7 = .ok (.invokevirtual 56, 3) := by decide +kernel
theorem dX5_inRings_10 : decode cX5_inRings 10 = .ok (.iadd, 1) := by decide +kernel
theorem dX5_inRings_11 : decode cX5_inRings 11 = .ok (.aload_n 0, 1) := by decide +kernel
theorem dX5_inRings_12 : decode cX5_inRings 12 = .ok (.iconst 2, 1) := by decide +kernel
theorem dX5_inRings_13 : decode cX5_inRings 13 = .ok (.invokevirtual 56, 3) := by decide +kernel
theorem dX5_inRings_16 : decode cX5_inRings 16 = .ok (.iadd, 1) := by decide +kernel
theorem dX5_inRings_17 : decode cX5_inRings 17 = .ok (.ireturn, 1) := by decide +kernel
theorem dX5_doCome_0 : decode cX5_doCome 0 = .ok (.aload_n 0, 1) := by decide +kernel
theorem dX5_doCome_1 : decode cX5_doCome 1 = .ok (.getfield 7, 3) := by decide +kernel
theorem dX5_doCome_4 : decode cX5_doCome 4 = .ok (.iconst 5, 1) := by decide +kernel
theorem dX5_doCome_5 : decode cX5_doCome 5 = .ok (.iaload, 1) := by decide +kernel
theorem dX5_doCome_6 : decode cX5_doCome 6 = .ok (.istore_n 2, 1) := by decide +kernel
theorem dX5_doCome_7 : decode cX5_doCome 7 = .ok (.iload_n 1, 1) := by decide +kernel
theorem dX5_doCome_8 : decode cX5_doCome 8 = .ok (.iconst 3, 1) := by decide +kernel
theorem dX5_doCome_9 : decode cX5_doCome 9 = .ok (.irem, 1) := by decide +kernel
theorem dX5_doCome_10 : decode cX5_doCome 10 = .ok (.istore_n 3, 1) := by decide +kernel
theorem dX5_doCome_11 : decode cX5_doCome 11 = .ok (.aload_n 0, 1) := by decide +kernel
theorem dX5_doCome_12 : decode cX5_doCome 12 = .ok (.iload_n 3, 1) := by decide +kernel
theorem dX5_doCome_13 : decode cX5_doCome 13 = .ok (.invokevirtual 56, 3) := by decide +kernel
theorem dX5_doCome_16 : decode cX5_doCome 16 = .ok (.aload_n 0, 1) := by decide +kernel
theorem dX5_doCome_17 : decode cX5_doCome 17 = .ok (.getfield 7, 3) := by decide +kernel
theorem dX5_doCome_20 : decode cX5_doCome 20 = .ok (.iconst 0, 1) := by decide +kernel
theorem dX5_doCome_21 : decode cX5_doCome 21 = .ok (.iaload, 1) := by decide +kernel
theorem dX5_doCome_22 : decode cX5_doCome 22 = .ok (.if_icmp .lt 7, 3) := by decide +kernel
theorem dX5_doCome_25 : decode cX5_doCome 25 = .ok (.iconst 1, 1) := by decide +kernel
theorem dX5_doCome_26 : decode cX5_doCome 26 = .ok (.goto 4, 3) := by decide +kernel
theorem dX5_doCome_29 : decode cX5_doCome 29 = .ok (.iconst 0, 1) := by decide +kernel
theorem dX5_doCome_30 : decode cX5_doCome 30 = .ok (.istore 4, 2) := by decide +kernel
theorem dX5_doCome_32 : decode cX5_doCome 32 = .ok (.bipush 40, 2) := by decide +kernel
theorem dX5_doCome_34 : decode cX5_doCome 34 = .ok (.iconst 4, 1) := by decide +kernel
theorem dX5_doCome_35 : decode cX5_doCome 35 = .ok (.iload_n 2, 1) := by decide +kernel
theorem dX5_doCome_36 : decode cX5_doCome 36 = .ok (.imul, 1) := by decide +kernel
theorem dX5_doCome_37 : decode cX5_doCome 37 = .ok (.iadd, 1) := by decide +kernel
theorem dX5_doCome_38 : decode cX5_doCome 38 = .ok (.istore 5, 2) := by decide +kernel
theorem dX5_doCome_40 : decode cX5_doCome 40 = .ok (.aload_n 0, 1) := by decide +kernel
theorem dX5_doCome_41 : decode cX5_doCome 41 = .ok (.getfield 7, 3) := by decide +kernel
theorem dX5_doCome_44 : decode cX5_doCome 44 = .ok (.iload 5, 2) := by decide +kernel
theorem dX5_doCome_46 : decode cX5_doCome 46 = .ok (.iconst 0, 1) := by decide +kernel
theorem dX5_doCome_47 : decode cX5_doCome 47 = .ok (.iadd, 1) := by decide +kernel
theorem dX5_doCome_48 : decode cX5_doCome 48 = .ok (.iload_n 1, 1) := by decide +kernel
theorem dX5_doCome_49 : decode cX5_doCome 49 = .ok (.iastore, 1) := by decide +kernel
theorem dX5_doCome_50 : decode cX5_doCome 50 = .ok (.aload_n 0, 1) := by decide +kernel
theorem dX5_doCome_51 : decode cX5_doCome 51 = .ok (.getfield 7, 3) := by decide +kernel
theorem dX5_doCome_54 : decode cX5_doCome 54 = .ok (.iload 5, 2) := by decide +kernel
theorem dX5_doCome_56 : decode cX5_doCome 56 = .ok (.iconst 1, 1) := by decide +kernel
theorem dX5_doCome_57 : decode cX5_doCome 57 = .ok (.iadd, 1) := by decide +kernel
theorem dX5_doCome_58 : decode cX5_doCome 58 = .ok (.aload_n 0, 1) := by decide +kernel
theorem dX5_doCome_59 : decode cX5_doCome 59 = .ok (.getfield 7, 3) := by decide +kernel
theorem dX5_doCome_62 : decode cX5_doCome 62 = .ok (.iconst 4, 1) := by decide +kernel
theorem dX5_doCome_63 : decode cX5_doCome 63 = .ok (.iaload, 1) := by decide +kernel
theorem dX5_doCome_64 : decode cX5_doCome 64 = .ok (.iastore, 1) := by decide +kernel
theorem dX5_doCome_65 : decode cX5_doCome 65 = .ok (.aload_n 0, 1) := by decide +kernel
theorem dX5_doCome_66 : decode cX5_doCome 66 = .ok (.getfield 7, 3) := by decide +kernel
theorem dX5_doCome_69 : decode cX5_doCome 69 = .ok (.iload 5, 2) := by decide +kernel
theorem dX5_doCome_71 : decode cX5_doCome 71 = .ok (.iconst 2, 1) := by decide +kernel
theorem dX5_doCome_72 : decode cX5_doCome 72 = .ok (.iadd, 1) := by decide +kernel
theorem dX5_doCome_73 : decode cX5_doCome 73 = .ok (.iload 4, 2) := by decide +kernel
theorem dX5_doCome_75 : decode cX5_doCome 75 = .ok (.ifCond .eq 7, 3) := by decide +kernel
theorem dX5_doCome_78 : decode cX5_doCome 78 = .ok (.iconst 2, 1) := by decide +kernel
theorem dX5_doCome_79 : decode cX5_doCome 79 = .ok (.goto 4, 3) := by decide +kernel
theorem dX5_doCome_82 : decode cX5_doCome 82 = .ok (.iconst 0, 1) := by decide +kernel
theorem dX5_doCome_83 : decode cX5_doCome 83 = .ok (.iastore, 1) := by decide +kernel
theorem dX5_doCome_84 : decode cX5_doCome 84 = .ok (.aload_n 0, 1) := by decide +kernel
theorem dX5_doCome_85 : decode cX5_doCome 85 = .ok (.getfield 7, 3) := by decide +kernel
theorem dX5_doCome_88 : decode cX5_doCome 88 = .ok (.iload 5, 2) := by decide +kernel
theorem dX5_doCome_90 : decode cX5_doCome 90 = .ok (.iconst 3, 1) := by decide +kernel
theorem dX5_doCome_91 : decode cX5_doCome 91 = .ok (.iadd, 1) := by decide +kernel
theorem dX5_doCome_92 : decode cX5_doCome 92 = .ok (.iconst 0, 1) := by decide +kernel
theorem dX5_doCome_93 : decode cX5_doCome 93 = .ok (.iastore, 1) := by decide +kernel
theorem dX5_doCome_94 : decode cX5_doCome 94 = .ok (.aload_n 0, 1) := by decide +kernel
theorem dX5_doCome_95 : decode cX5_doCome 95 = .ok (.getfield 7, 3) := by decide +kernel
theorem dX5_doCome_98 : decode cX5_doCome 98 = .ok (.iconst 5, 1) := by decide +kernel
theorem dX5_doCome_99 : decode cX5_doCome 99 = .ok (.dup2, 1) := by decide +kernel
theorem dX5_doCome_100 : decode cX5_doCome 100 = .ok (.iaload, 1) := by decide +kernel
theorem dX5_doCome_101 : decode cX5_doCome 101 = .ok (.iconst 1, 1) := by decide +kernel
theorem dX5_doCome_102 : decode cX5_doCome 102 = .ok (.iadd, 1) := by decide +kernel
theorem dX5_doCome_103 : decode cX5_doCome 103 = .ok (.iastore, 1) := by decide +kernel
theorem dX5_doCome_104 : decode cX5_doCome 104 = .ok (.aload_n 0, 1) := by decide +kernel
theorem dX5_doCome_105 : decode cX5_doCome 105 = .ok (.iload_n 3, 1) := by decide +kernel
theorem dX5_doCome_106 : decode cX5_doCome 106 = .ok (.bipush 6, 2) := by decide +kernel
theorem dX5_doCome_108 : decode cX5_doCome 108 = .ok (.iload 4, 2) := by decide +kernel
theorem dX5_doCome_110 : decode cX5_doCome 110 = .ok (.ifCond .eq 7, 3) := by decide +kernel
theorem dX5_doCome_113 : decode cX5_doCome 113 = .ok (.iconst 1, 1) := by decide +kernel
theorem dX5_doCome_114 : decode cX5_doCome 114 = .ok (.goto 4, 3) := by decide +kernel
theorem dX5_doCome_117 : decode cX5_doCome 117 = .ok (.iconst 0, 1) := by decide +kernel
theorem dX5_doCome_118 : decode cX5_doCome 118 = .ok (.invokevirtual 60, 3) := by decide +kernel
theorem dX5_doCome_121 : decode cX5_doCome 121 = .ok (.iload_n 2, 1) := by decide +kernel
theorem dX5_doCome_122 : decode cX5_doCome 122 = .ok (.ireturn, 1) := by decide +kernel
theorem dX5_doCall_0 : decode cX5_doCall 0 = .ok (.aload_n 0, 1) := by decide +kernel
theorem dX5_doCall_1 : decode cX5_doCall 1 = .ok (.getfield 7, 3) := by decide +kernel
theorem dX5_doCall_4 : decode cX5_doCall 4 = .ok (.bipush 7, 2) := by decide +kernel
theorem dX5_doCall_6 : decode cX5_doCall 6 = .ok (.aload_n 0, 1) := by decide +kernel
theorem dX5_doCall_7 : decode cX5_doCall 7 = .ok (.getfield 7, 3) := by decide +kernel
theorem dX5_doCall_10 : decode cX5_doCall 10 = .ok (.bipush 6, 2) := by decide +kernel
theorem dX5_doCall_12 : decode cX5_doCall 12 = .ok (.iaload, 1) := by decide +kernel
theorem dX5_doCall_13 : decode cX5_doCall 13 = .ok (.iadd, 1) := by decide +kernel
theorem dX5_doCall_14 : decode cX5_doCall 14 = .ok (.iload_n 1, 1) := by decide +kernel
theorem dX5_doCall_15 : decode cX5_doCall 15 = .ok (.iastore, 1) := by decide +kernel
theorem dX5_doCall_16 : decode cX5_doCall 16 = .ok (.aload_n 0, 1) := by decide +kernel
theorem dX5_doCall_17 : decode cX5_doCall 17 = .ok (.getfield 7, 3) := by decide +kernel
theorem dX5_doCall_20 : decode cX5_doCall 20 = .ok (.bipush 6, 2) := by decide +kernel
theorem dX5_doCall_22 : decode cX5_doCall 22 = .ok (.dup2, 1) := by decide +kernel
theorem dX5_doCall_23 : decode cX5_doCall 23 = .ok (.iaload, 1) := by decide +kernel
theorem dX5_doCall_24 : decode cX5_doCall 24 = .ok (.iconst 1, 1) := by decide +kernel
theorem dX5_doCall_25 : decode cX5_doCall 25 = .ok (.iadd, 1) := by decide +kernel
theorem dX5_doCall_26 : decode cX5_doCall 26 = .ok (.iastore, 1) := by decide +kernel
theorem dX5_doCall_27 : decode cX5_doCall 27 = .ok (.aload_n 0, 1) := by decide +kernel
theorem dX5_doCall_28 : decode cX5_doCall 28 = .ok (.iload_n 1, 1) := by decide +kernel
theorem dX5_doCall_29 : decode cX5_doCall 29 = .ok (.iconst 4, 1) := by decide +kernel
theorem dX5_doCall_30 : decode cX5_doCall 30 = .ok (.iconst 1, 1) := by decide +kernel
theorem dX5_doCall_31 : decode cX5_doCall 31 = .ok (.invokevirtual 60, 3) := by decide +kernel
theorem dX5_doCall_34 : decode cX5_doCall 34 = .ok (.aload_n 0, 1) := by decide +kernel
theorem dX5_doCall_35 : decode cX5_doCall 35 = .ok (.iload_n 1, 1) := by decide +kernel
theorem dX5_doCall_36 : decode cX5_doCall 36 = .ok (.bipush 9, 2) := by decide +kernel
theorem dX5_doCall_38 : decode cX5_doCall 38 = .ok (.iconst 0, 1) := by decide +kernel
theorem dX5_doCall_39 : decode cX5_doCall 39 = .ok (.invokevirtual 31, 3) := by decide +kernel
theorem dX5_doCall_42 : decode cX5_doCall 42 = .ok (.return_, 1) := by decide +kernel
theorem dX5_takes_0 : decode cX5_takes 0 = .ok (.aload_n 0, 1) := by decide +kernel
theorem dX5_takes_1 : decode cX5_takes 1 = .ok (.getfield 7, 3) := by decide +kernel
theorem dX5_takes_4 : decode cX5_takes 4 = .ok (.iconst 4, 1) := by decide +kernel
theorem dX5_takes_5 : decode cX5_takes 5 = .ok (.iaload, 1) := by decide +kernel
theorem dX5_takes_6 : decode cX5_takes 6 = .ok (.aload_n 0, 1) := by decide +kernel
theorem dX5_takes_7 : decode cX5_takes 7 = .ok (.iload_n 1, 1) := by decide +kernel
theorem dX5_takes_8 : decode cX5_takes 8 = .ok (.iconst 1, 1) := by decide +kernel
theorem dX5_takes_9 : decode cX5_takes 9 = .ok (.invokevirtual 45, 3) := by decide +kernel
theorem dX5_takes_12 : decode cX5_takes 12 = .ok (.isub, 1) := by decide +kernel
theorem dX5_takes_13 : decode cX5_takes 13 = .ok (.istore_n 3, 1) := by decide +kernel
theorem dX5_takes_14 : decode cX5_takes 14 = .ok (.aload_n 0, 1) := by decide +kernel
theorem dX5_takes_15 : decode cX5_takes 15 = .ok (.getfield 7, 3) := by decide +kernel
theorem dX5_takes_18 : decode cX5_takes 18 = .ok (.bipush 40, 2) := by decide +kernel
theorem dX5_takes_20 : decode cX5_takes 20 = .ok (.iconst 4, 1) := by decide +kernel
theorem dX5_takes_21 : decode cX5_takes 21 = .ok (.iload_n 1, 1) := by decide +kernel
theorem dX5_takes_22 : decode cX5_takes 22 = .ok (.imul, 1) := by decide +kernel
theorem dX5_takes_23 : decode cX5_takes 23 = .ok (.iadd, 1) := by decide +kernel
theorem dX5_takes_24 : decode cX5_takes 24 = .ok (.iconst 2, 1) := by decide +kernel
theorem dX5_takes_25 : decode cX5_takes 25 = .ok (.iadd, 1) := by decide +kernel
theorem dX5_takes_26 : decode cX5_takes 26 = .ok (.iconst 1, 1) := by decide +kernel
theorem dX5_takes_27 : decode cX5_takes 27 = .ok (.iastore, 1) := by decide +kernel
theorem dX5_takes_28 : decode cX5_takes 28 = .ok (.aload_n 0, 1) := by decide +kernel
theorem dX5_takes_29 : decode cX5_takes 29 = .ok (.getfield 7, 3) := by decide +kernel
theorem dX5_takes_32 : decode cX5_takes 32 = .ok (.bipush 40, 2) := by decide +kernel
theorem dX5_takes_34 : decode cX5_takes 34 = .ok (.iconst 4, 1) := by decide +kernel
theorem dX5_takes_35 : decode cX5_takes 35 = .ok (.iload_n 1, 1) := by decide +kernel
theorem dX5_takes_36 : decode cX5_takes 36 = .ok (.imul, 1) := by decide +kernel
theorem dX5_takes_37 : decode cX5_takes 37 = .ok (.iadd, 1) := by decide +kernel
theorem dX5_takes_38 : decode cX5_takes 38 = .ok (.iconst 3, 1) := by decide +kernel
theorem dX5_takes_39 : decode cX5_takes 39 = .ok (.iadd, 1) := by decide +kernel
theorem dX5_takes_40 : decode cX5_takes 40 = .ok (.iload_n 3, 1) := by decide +kernel
theorem dX5_takes_41 : decode cX5_takes 41 = .ok (.iastore, 1) := by decide +kernel
theorem dX5_takes_42 : decode cX5_takes 42 = .ok (.aload_n 0, 1) := by decide +kernel
theorem dX5_takes_43 : decode cX5_takes 43 = .ok (.iload_n 2, 1) := by decide +kernel
theorem dX5_takes_44 : decode cX5_takes 44 = .ok (.iconst 5, 1) := by decide +kernel
theorem dX5_takes_45 : decode cX5_takes 45 = .ok (.iconst 1, 1) := by decide +kernel
theorem dX5_takes_46 : decode cX5_takes 46 = .ok (.invokevirtual 60, 3) := by decide +kernel
theorem dX5_takes_49 : decode cX5_takes 49 = .ok (.aload_n 0, 1) := by decide +kernel
theorem dX5_takes_50 : decode cX5_takes 50 = .ok (.iload_n 2, 1) := by decide +kernel
theorem dX5_takes_51 : decode cX5_takes 51 = .ok (.bipush 9, 2) := by decide +kernel
theorem dX5_takes_53 : decode cX5_takes 53 = .ok (.iconst 1, 1) := by decide +kernel
theorem dX5_takes_54 : decode cX5_takes 54 = .ok (.invokevirtual 60, 3) := by decide +kernel
theorem dX5_takes_57 : decode cX5_takes 57 = .ok (.aload_n 0, 1) := by decide +kernel
theorem dX5_takes_58 : decode cX5_takes 58 = .ok (.iload_n 2, 1) := by decide +kernel
theorem dX5_takes_59 : decode cX5_takes 59 = .ok (.bipush 7, 2) := by decide +kernel
theorem dX5_takes_61 : decode cX5_takes 61 = .ok (.iload_n 3, 1) := by decide +kernel
theorem dX5_takes_62 : decode cX5_takes 62 = .ok (.invokevirtual 60, 3) := by decide +kernel
theorem dX5_takes_65 : decode cX5_takes 65 = .ok (.aload_n 0, 1) := by decide +kernel
theorem dX5_takes_66 : decode cX5_takes 66 = .ok (.iload_n 2, 1) := by decide +kernel
theorem dX5_takes_67 : decode cX5_takes 67 = .ok (.bipush 8, 2) := by decide +kernel
theorem dX5_takes_69 : decode cX5_takes 69 = .ok (.iload_n 3, 1) := by decide +kernel
theorem dX5_takes_70 : decode cX5_takes 70 = .ok (.aload_n 0, 1) := by decide +kernel
theorem dX5_takes_71 : decode cX5_takes 71 = .ok (.iload_n 2, 1) := by decide +kernel
theorem dX5_takes_72 : decode cX5_takes 72 = .ok (.bipush 8, 2) := by decide +kernel
theorem dX5_takes_74 : decode cX5_takes 74 = .ok (.invokevirtual 53, 3) := by decide +kernel
theorem dX5_takes_77 : decode cX5_takes 77 = .ok (.if_icmp .le 7, 3) := by decide +kernel
theorem dX5_takes_80 : decode cX5_takes 80 = .ok (.iload_n 3, 1) := by decide +kernel
theorem dX5_takes_81 : decode cX5_takes 81 = .ok (.goto 10, 3) := by decide +kernel
theorem dX5_takes_84 : decode cX5_takes 84 = .ok (.aload_n 0, 1) := by decide +kernel
theorem dX5_takes_85 : decode cX5_takes 85 = .ok (.iload_n 2, 1) := by decide +kernel
theorem dX5_takes_86 : decode cX5_takes 86 = .ok (.bipush 8, 2) := by decide +kernel
theorem dX5_takes_88 : decode cX5_takes 88 = .ok (.invokevirtual 53, 3) := by decide +kernel
theorem dX5_takes_91 : decode cX5_takes 91 = .ok (.invokevirtual 31, 3) := by decide +kernel
theorem dX5_takes_94 : decode cX5_takes 94 = .ok (.return_, 1) := by decide +kernel
theorem dX5_leaves_0 : decode cX5_leaves 0 = .ok (.aload_n 0, 1) := by decide +kernel
theorem dX5_leaves_1 : decode cX5_leaves 1 = .ok (.iload_n 1, 1) := by decide +kernel
theorem dX5_leaves_2 : decode cX5_leaves 2 = .ok (.bipush 9, 2) := by decide +kernel
theorem dX5_leaves_4 : decode cX5_leaves 4 = .ok (.invokevirtual 53, 3) := by decide +kernel
theorem dX5_leaves_7 : decode cX5_leaves 7 = .ok (.istore_n 2, 1) := by decide +kernel
theorem dX5_leaves_8 : decode cX5_leaves 8 = .ok (.aload_n 0, 1) := by decide +kernel
theorem dX5_leaves_9 : decode cX5_leaves 9 = .ok (.iload_n 1, 1) := by decide +kernel
theorem dX5_leaves_10 : decode cX5_leaves 10 = .ok (.iconst 2, 1) := by decide +kernel
theorem dX5_leaves_11 : decode cX5_leaves 11 = .ok (.invokevirtual 53, 3) := by decide +kernel
theorem dX5_leaves_14 : decode cX5_leaves 14 = .ok (.istore_n 3, 1) := by decide +kernel
theorem dX5_leaves_15 : decode cX5_leaves 15 = .ok (.aload_n 0, 1) := by decide +kernel
theorem dX5_leaves_16 : decode cX5_leaves 16 = .ok (.getfield 7, 3) := by decide +kernel
theorem dX5_leaves_19 : decode cX5_leaves 19 = .ok (.iconst 2, 1) := by decide +kernel
theorem dX5_leaves_20 : decode cX5_leaves 20 = .ok (.iaload, 1) := by decide +kernel
theorem dX5_leaves_21 : decode cX5_leaves 21 = .ok (.iconst 1, 1) := by decide +kernel
theorem dX5_leaves_22 : decode cX5_leaves 22 = .ok (.if_icmp .ne 35, 3) := by decide +kernel
theorem dX5_leaves_25 : decode cX5_leaves 25 = .ok (.iload_n 2, 1) := by decide +kernel
theorem dX5_leaves_26 : decode cX5_leaves 26 = .ok (.iconst 2, 1) := by decide +kernel
theorem dX5_leaves_27 : decode cX5_leaves 27 = .ok (.iload_n 3, 1) := by decide +kernel
theorem dX5_leaves_28 : decode cX5_leaves 28 = .ok (.imul, 1) := by decide +kernel
theorem dX5_leaves_29 : decode cX5_leaves 29 = .ok (.if_icmp .le 28, 3) := by decide +kernel
theorem dX5_leaves_32 : decode cX5_leaves 32 = .ok (.aload_n 0, 1) := by decide +kernel
theorem dX5_leaves_33 : decode cX5_leaves 33 = .ok (.iload_n 1, 1) := by decide +kernel
theorem dX5_leaves_34 : decode cX5_leaves 34 = .ok (.iconst 2, 1) := by decide +kernel
theorem dX5_leaves_35 : decode cX5_leaves 35 = .ok (.iconst 2, 1) := by decide +kernel
theorem dX5_leaves_36 : decode cX5_leaves 36 = .ok (.iload_n 3, 1) := by decide +kernel
theorem dX5_leaves_37 : decode cX5_leaves 37 = .ok (.imul, 1) := by decide +kernel
theorem dX5_leaves_38 : decode cX5_leaves 38 = .ok (.bipush 32, 2) := by decide +kernel
theorem dX5_leaves_40 : decode cX5_leaves 40 = .ok (.if_icmp .le 8, 3) := by decide +kernel
theorem dX5_leaves_43 : decode cX5_leaves 43 = .ok (.bipush 32, 2) := by decide +kernel
theorem dX5_leaves_45 : decode cX5_leaves 45 = .ok (.goto 6, 3) := by decide +kernel
theorem dX5_leaves_48 : decode cX5_leaves 48 = .ok (.iconst 2, 1) := by decide +kernel
theorem dX5_leaves_49 : decode cX5_leaves 49 = .ok (.iload_n 3, 1) := by decide +kernel
theorem dX5_leaves_50 : decode cX5_leaves 50 = .ok (.imul, 1) := by decide +kernel
theorem dX5_leaves_51 : decode cX5_leaves 51 = .ok (.invokevirtual 31, 3) := by decide +kernel
theorem dX5_leaves_54 : decode cX5_leaves 54 = .ok (.goto 40, 3) := by decide +kernel
theorem dX5_leaves_57 : decode cX5_leaves 57 = .ok (.aload_n 0, 1) := by decide +kernel
theorem dX5_leaves_58 : decode cX5_leaves 58 = .ok (.getfield 7, 3) := by decide +kernel
theorem dX5_leaves_61 : decode cX5_leaves 61 = .ok (.iconst 2, 1) := by decide +kernel
theorem dX5_leaves_62 : decode cX5_leaves 62 = .ok (.iaload, 1) := by decide +kernel
theorem dX5_leaves_63 : decode cX5_leaves 63 = .ok (.iconst 1, 1) := by decide +kernel
theorem dX5_leaves_64 : decode cX5_leaves 64 = .ok (.if_icmp .ne 30, 3) := by decide +kernel
theorem dX5_leaves_67 : decode cX5_leaves 67 = .ok (.iconst 2, 1) := by decide +kernel
theorem dX5_leaves_68 : decode cX5_leaves 68 = .ok (.iload_n 2, 1) := by decide +kernel
theorem dX5_leaves_69 : decode cX5_leaves 69 = .ok (.imul, 1) := by decide +kernel
theorem dX5_leaves_70 : decode cX5_leaves 70 = .ok (.iload_n 3, 1) := by decide +kernel
theorem dX5_leaves_71 : decode cX5_leaves 71 = .ok (.if_icmp .ge 23, 3) := by decide +kernel
theorem dX5_leaves_74 : decode cX5_leaves 74 = .ok (.aload_n 0, 1) := by decide +kernel
theorem dX5_leaves_75 : decode cX5_leaves 75 = .ok (.iload_n 1, 1) := by decide +kernel
theorem dX5_leaves_76 : decode cX5_leaves 76 = .ok (.iconst 2, 1) := by decide +kernel
theorem dX5_leaves_77 : decode cX5_leaves 77 = .ok (.iload_n 3, 1) := by decide +kernel
theorem dX5_leaves_78 : decode cX5_leaves 78 = .ok (.iconst 2, 1) := by decide +kernel
theorem dX5_leaves_79 : decode cX5_leaves 79 = .ok (.idiv, 1) := by decide +kernel
theorem dX5_leaves_80 : decode cX5_leaves 80 = .ok (.iconst 1, 1) := by decide +kernel
theorem dX5_leaves_81 : decode cX5_leaves 81 = .ok (.if_icmp .ge 7, 3) := by decide +kernel
theorem dX5_leaves_84 : decode cX5_leaves 84 = .ok (.iconst 1, 1) := by decide +kernel
theorem dX5_leaves_85 : decode cX5_leaves 85 = .ok (.goto 6, 3) := by decide +kernel
theorem dX5_leaves_88 : decode cX5_leaves 88 = .ok (.iload_n 3, 1) := by decide +kernel
theorem dX5_leaves_89 : decode cX5_leaves 89 = .ok (.iconst 2, 1) := by decide +kernel
theorem dX5_leaves_90 : decode cX5_leaves 90 = .ok (.idiv, 1) := by decide +kernel
theorem dX5_leaves_91 : decode cX5_leaves 91 = .ok (.invokevirtual 31, 3) := by decide +kernel
theorem dX5_leaves_94 : decode cX5_leaves 94 = .ok (.aload_n 0, 1) := by decide +kernel
theorem dX5_leaves_95 : decode cX5_leaves 95 = .ok (.iload_n 1, 1) := by decide +kernel
theorem dX5_leaves_96 : decode cX5_leaves 96 = .ok (.bipush 9, 2) := by decide +kernel
theorem dX5_leaves_98 : decode cX5_leaves 98 = .ok (.iconst 0, 1) := by decide +kernel
theorem dX5_leaves_99 : decode cX5_leaves 99 = .ok (.invokevirtual 31, 3) := by decide +kernel
theorem dX5_leaves_102 : decode cX5_leaves 102 = .ok (.return_, 1) := by decide +kernel
theorem dX5_polls_0 : decode cX5_polls 0 = .ok (.aload_n 0, 1) := by decide +kernel
theorem dX5_polls_1 : decode cX5_polls 1 = .ok (.getfield 7, 3) := by decide +kernel
theorem dX5_polls_4 : decode cX5_polls 4 = .ok (.bipush 7, 2) := by decide +kernel
theorem dX5_polls_6 : decode cX5_polls 6 = .ok (.iaload, 1) := by decide +kernel
theorem dX5_polls_7 : decode cX5_polls 7 = .ok (.istore_n 1, 1) := by decide +kernel
theorem dX5_polls_8 : decode cX5_polls 8 = .ok (.iconst 0, 1) := by decide +kernel
theorem dX5_polls_9 : decode cX5_polls 9 = .ok (.istore_n 2, 1) := by decide +kernel
theorem dX5_polls_10 : decode cX5_polls 10 = .ok (.aload_n 0, 1) := by decide +kernel
theorem dX5_polls_11 : decode cX5_polls 11 = .ok (.iload_n 1, 1) := by decide +kernel
theorem dX5_polls_12 : decode cX5_polls 12 = .ok (.invokevirtual 63, 3) := by decide +kernel
theorem dX5_polls_15 : decode cX5_polls 15 = .ok (.istore_n 3, 1) := by decide +kernel
theorem dX5_polls_16 : decode cX5_polls 16 = .ok (.iload_n 2, 1) := by decide +kernel
theorem dX5_polls_17 : decode cX5_polls 17 = .ok (.aload_n 0, 1) := by decide +kernel
theorem dX5_polls_18 : decode cX5_polls 18 = .ok (.getfield 7, 3) := by decide +kernel
theorem dX5_polls_21 : decode cX5_polls 21 = .ok (.iconst 1, 1) := by decide +kernel
theorem dX5_polls_22 : decode cX5_polls 22 = .ok (.iaload, 1) := by decide +kernel
theorem dX5_polls_23 : decode cX5_polls 23 = .ok (.if_icmp .ge 27, 3) := by decide +kernel
theorem dX5_polls_26 : decode cX5_polls 26 = .ok (.iload_n 3, 1) := by decide +kernel
theorem dX5_polls_27 : decode cX5_polls 27 = .ok (.bipush (-6), 2) := by decide +kernel
theorem dX5_polls_29 : decode cX5_polls 29 = .ok (.if_icmp .eq 21, 3) := by decide +kernel
theorem dX5_polls_32 : decode cX5_polls 32 = .ok (.aload_n 0, 1) := by decide +kernel
theorem dX5_polls_33 : decode cX5_polls 33 = .ok (.iload_n 3, 1) := by decide +kernel
theorem dX5_polls_34 : decode cX5_polls 34 = .ok (.iload_n 1, 1) := by decide +kernel
theorem dX5_polls_35 : decode cX5_polls 35 = .ok (.invokevirtual 66, 3) := by decide +kernel
theorem dX5_polls_38 : decode cX5_polls 38 = .ok (.iinc 2 1, 3) := by decide +kernel
theorem dX5_polls_41 : decode cX5_polls 41 = .ok (.aload_n 0, 1) := by decide +kernel
theorem dX5_polls_42 : decode cX5_polls 42 = .ok (.iload_n 1, 1) := by decide +kernel
theorem dX5_polls_43 : decode cX5_polls 43 = .ok (.invokevirtual 63, 3) := by decide +kernel
theorem dX5_polls_46 : decode cX5_polls 46 = .ok (.istore_n 3, 1) := by decide +kernel
theorem dX5_polls_47 : decode cX5_polls 47 = .ok (.goto (-31), 3) := by decide +kernel
theorem dX5_polls_50 : decode cX5_polls 50 = .ok (.iconst 1, 1) := by decide +kernel
theorem dX5_polls_51 : decode cX5_polls 51 = .ok (.istore 4, 2) := by decide +kernel
theorem dX5_polls_53 : decode cX5_polls 53 = .ok (.iload 4, 2) := by decide +kernel
theorem dX5_polls_55 : decode cX5_polls 55 = .ok (.aload_n 0, 1) := by decide +kernel
theorem dX5_polls_56 : decode cX5_polls 56 = .ok (.getfield 7, 3) := by decide +kernel
theorem dX5_polls_59 : decode cX5_polls 59 = .ok (.bipush 6, 2) := by decide +kernel
theorem dX5_polls_61 : decode cX5_polls 61 = .ok (.iaload, 1) := by decide +kernel
theorem dX5_polls_62 : decode cX5_polls 62 = .ok (.if_icmp .ge 31, 3) := by decide +kernel
theorem dX5_polls_65 : decode cX5_polls 65 = .ok (.aload_n 0, 1) := by decide +kernel
theorem dX5_polls_66 : decode cX5_polls 66 = .ok (.getfield 7, 3) := by decide +kernel
theorem dX5_polls_69 : decode cX5_polls 69 = .ok (.bipush 7, 2) := by decide +kernel
theorem dX5_polls_71 : decode cX5_polls 71 = .ok (.iload 4, 2) := by decide +kernel
theorem dX5_polls_73 : decode cX5_polls 73 = .ok (.iadd, 1) := by decide +kernel
theorem dX5_polls_74 : decode cX5_polls 74 = .ok (.iconst 1, 1) := by decide +kernel
theorem dX5_polls_75 : decode cX5_polls 75 = .ok (.isub, 1) := by decide +kernel
theorem dX5_polls_76 : decode cX5_polls 76 = .ok (.aload_n 0, 1) := by decide +kernel
theorem dX5_polls_77 : decode cX5_polls 77 = .ok (.getfield 7, 3) := by decide +kernel
theorem dX5_polls_80 : decode cX5_polls 80 = .ok (.bipush 7, 2) := by decide +kernel
theorem dX5_polls_82 : decode cX5_polls 82 = .ok (.iload 4, 2) := by decide +kernel
theorem dX5_polls_84 : decode cX5_polls 84 = .ok (.iadd, 1) := by decide +kernel
theorem dX5_polls_85 : decode cX5_polls 85 = .ok (.iaload, 1) := by decide +kernel
theorem dX5_polls_86 : decode cX5_polls 86 = .ok (.iastore, 1) := by decide +kernel
theorem dX5_polls_87 : decode cX5_polls 87 = .ok (.iinc 4 1, 3) := by decide +kernel
theorem dX5_polls_90 : decode cX5_polls 90 = .ok (.goto (-37), 3) := by decide +kernel
theorem dX5_polls_93 : decode cX5_polls 93 = .ok (.iload_n 2, 1) := by decide +kernel
theorem dX5_polls_94 : decode cX5_polls 94 = .ok (.aload_n 0, 1) := by decide +kernel
theorem dX5_polls_95 : decode cX5_polls 95 = .ok (.getfield 7, 3) := by decide +kernel
theorem dX5_polls_98 : decode cX5_polls 98 = .ok (.iconst 1, 1) := by decide +kernel
theorem dX5_polls_99 : decode cX5_polls 99 = .ok (.iaload, 1) := by decide +kernel
theorem dX5_polls_100 : decode cX5_polls 100 = .ok (.if_icmp .ge 38, 3) := by decide +kernel
theorem dX5_polls_103 : decode cX5_polls 103 = .ok (.aload_n 0, 1) := by decide +kernel
theorem dX5_polls_104 : decode cX5_polls 104 = .ok (.getfield 7, 3) := by decide +kernel
theorem dX5_polls_107 : decode cX5_polls 107 = .ok (.bipush 6, 2) := by decide +kernel
theorem dX5_polls_109 : decode cX5_polls 109 = .ok (.dup2, 1) := by decide +kernel
theorem dX5_polls_110 : decode cX5_polls 110 = .ok (.iaload, 1) := by decide +kernel
theorem dX5_polls_111 : decode cX5_polls 111 = .ok (.iconst 1, 1) := by decide +kernel
theorem dX5_polls_112 : decode cX5_polls 112 = .ok (.isub, 1) := by decide +kernel
theorem dX5_polls_113 : decode cX5_polls 113 = .ok (.iastore, 1) := by decide +kernel
theorem dX5_polls_114 : decode cX5_polls 114 = .ok (.aload_n 0, 1) := by decide +kernel
theorem dX5_polls_115 : decode cX5_polls 115 = .ok (.getfield 7, 3) := by decide +kernel
theorem dX5_polls_118 : decode cX5_polls 118 = .ok (.bipush 7, 2) := by decide +kernel
theorem dX5_polls_120 : decode cX5_polls 120 = .ok (.aload_n 0, 1) := by decide +kernel
theorem dX5_polls_121 : decode cX5_polls 121 = .ok (.getfield 7, 3) := by decide +kernel
theorem dX5_polls_124 : decode cX5_polls 124 = .ok (.bipush 6, 2) := by decide +kernel
theorem dX5_polls_126 : decode cX5_polls 126 = .ok (.iaload, 1) := by decide +kernel
theorem dX5_polls_127 : decode cX5_polls 127 = .ok (.iadd, 1) := by decide +kernel
theorem dX5_polls_128 : decode cX5_polls 128 = .ok (.iconst 0, 1) := by decide +kernel
theorem dX5_polls_129 : decode cX5_polls 129 = .ok (.iastore, 1) := by decide +kernel
theorem dX5_polls_130 : decode cX5_polls 130 = .ok (.aload_n 0, 1) := by decide +kernel
theorem dX5_polls_131 : decode cX5_polls 131 = .ok (.iload_n 1, 1) := by decide +kernel
theorem dX5_polls_132 : decode cX5_polls 132 = .ok (.invokevirtual 70, 3) := by decide +kernel
theorem dX5_polls_135 : decode cX5_polls 135 = .ok (.goto 21, 3) := by decide +kernel
theorem dX5_polls_138 : decode cX5_polls 138 = .ok (.aload_n 0, 1) := by decide +kernel
theorem dX5_polls_139 : decode cX5_polls 139 = .ok (.getfield 7, 3) := by decide +kernel
theorem dX5_polls_142 : decode cX5_polls 142 = .ok (.bipush 7, 2) := by decide +kernel
theorem dX5_polls_144 : decode cX5_polls 144 = .ok (.aload_n 0, 1) := by decide +kernel
theorem dX5_polls_145 : decode cX5_polls 145 = .ok (.getfield 7, 3) := by decide +kernel
theorem dX5_polls_148 : decode cX5_polls 148 = .ok (.bipush 6, 2) := by decide +kernel
theorem dX5_polls_150 : decode cX5_polls 150 = .ok (.iaload, 1) := by decide +kernel
theorem dX5_polls_151 : decode cX5_polls 151 = .ok (.iadd, 1) := by decide +kernel
theorem dX5_polls_152 : decode cX5_polls 152 = .ok (.iconst 1, 1) := by decide +kernel
theorem dX5_polls_153 : decode cX5_polls 153 = .ok (.isub, 1) := by decide +kernel
theorem dX5_polls_154 : decode cX5_polls 154 = .ok (.iload_n 1, 1) := by decide +kernel
theorem dX5_polls_155 : decode cX5_polls 155 = .ok (.iastore, 1) := by decide +kernel
theorem dX5_polls_156 : decode cX5_polls 156 = .ok (.return_, 1) := by decide +kernel
theorem dX5_reason_0 : decode cX5_reason 0 = .ok (.aload_n 0, 1) := by decide +kernel
theorem dX5_reason_1 : decode cX5_reason 1 = .ok (.iload_n 1, 1) := by decide +kernel
theorem dX5_reason_2 : decode cX5_reason 2 = .ok (.invokevirtual 74, 3) := by decide +kernel
theorem dX5_reason_5 : decode cX5_reason 5 = .ok (.bipush (-6), 2) := by decide +kernel
theorem dX5_reason_7 : decode cX5_reason 7 = .ok (.if_icmp .eq 5, 3) := by decide +kernel
theorem dX5_reason_10 : decode cX5_reason 10 = .ok (.iconst 1, 1) := by decide +kernel
theorem dX5_reason_11 : decode cX5_reason 11 = .ok (.ireturn, 1) := by decide +kernel
theorem dX5_reason_12 : decode cX5_reason 12 = .ok (.aload_n 0, 1) := by decide +kernel
theorem dX5_reason_13 : decode cX5_reason 13 = .ok (.iload_n 1, 1) := by decide +kernel
theorem dX5_reason_14 : decode cX5_reason 14 = .ok (.iconst 3, 1) := by decide +kernel
theorem dX5_reason_15 : decode cX5_reason 15 = .ok (.invokevirtual 53, 3) := by decide +kernel
theorem dX5_reason_18 : decode cX5_reason 18 = .ok (.iconst 1, 1) := by decide +kernel
theorem dX5_reason_19 : decode cX5_reason 19 = .ok (.if_icmp .ne 5, 3) := by decide +kernel
theorem dX5_reason_22 : decode cX5_reason 22 = .ok (.iconst 2, 1) := by decide +kernel
theorem dX5_reason_23 : decode cX5_reason 23 = .ok (.ireturn, 1) := by decide +kernel
theorem dX5_reason_24 : decode cX5_reason 24 = .ok (.aload_n 0, 1) := by decide +kernel
theorem dX5_reason_25 : decode cX5_reason 25 = .ok (.iload_n 1, 1) := by decide +kernel
theorem dX5_reason_26 : decode cX5_reason 26 = .ok (.invokevirtual 63, 3) := by decide +kernel
theorem dX5_reason_29 : decode cX5_reason 29 = .ok (.istore_n 2, 1) := by decide +kernel
theorem dX5_reason_30 : decode cX5_reason 30 = .ok (.iload_n 2, 1) := by decide +kernel
theorem dX5_reason_31 : decode cX5_reason 31 = .ok (.bipush (-6), 2) := by decide +kernel
theorem dX5_reason_33 : decode cX5_reason 33 = .ok (.if_icmp .ne 5, 3) := by decide +kernel
theorem dX5_reason_36 : decode cX5_reason 36 = .ok (.iconst 3, 1) := by decide +kernel
theorem dX5_reason_37 : decode cX5_reason 37 = .ok (.ireturn, 1) := by decide +kernel
theorem dX5_reason_38 : decode cX5_reason 38 = .ok (.aload_n 0, 1) := by decide +kernel
theorem dX5_reason_39 : decode cX5_reason 39 = .ok (.iload_n 1, 1) := by decide +kernel
theorem dX5_reason_40 : decode cX5_reason 40 = .ok (.invokevirtual 56, 3) := by decide +kernel
theorem dX5_reason_43 : decode cX5_reason 43 = .ok (.aload_n 0, 1) := by decide +kernel
theorem dX5_reason_44 : decode cX5_reason 44 = .ok (.iload_n 1, 1) := by decide +kernel
theorem dX5_reason_45 : decode cX5_reason 45 = .ok (.iconst 2, 1) := by decide +kernel
theorem dX5_reason_46 : decode cX5_reason 46 = .ok (.invokevirtual 53, 3) := by decide +kernel
theorem dX5_reason_49 : decode cX5_reason 49 = .ok (.if_icmp .ge 29, 3) := by decide +kernel
theorem dX5_reason_52 : decode cX5_reason 52 = .ok (.aload_n 0, 1) := by decide +kernel
theorem dX5_reason_53 : decode cX5_reason 53 = .ok (.getfield 7, 3) := by decide +kernel
theorem dX5_reason_56 : decode cX5_reason 56 = .ok (.iconst 4, 1) := by decide +kernel
theorem dX5_reason_57 : decode cX5_reason 57 = .ok (.iaload, 1) := by decide +kernel
theorem dX5_reason_58 : decode cX5_reason 58 = .ok (.aload_n 0, 1) := by decide +kernel
theorem dX5_reason_59 : decode cX5_reason 59 = .ok (.iload_n 2, 1) := by decide +kernel
theorem dX5_reason_60 : decode cX5_reason 60 = .ok (.iconst 1, 1) := by decide +kernel
theorem dX5_reason_61 : decode cX5_reason 61 = .ok (.invokevirtual 45, 3) := by decide +kernel
theorem dX5_reason_64 : decode cX5_reason 64 = .ok (.isub, 1) := by decide +kernel
theorem dX5_reason_65 : decode cX5_reason 65 = .ok (.aload_n 0, 1) := by decide +kernel
theorem dX5_reason_66 : decode cX5_reason 66 = .ok (.iload_n 1, 1) := by decide +kernel
theorem dX5_reason_67 : decode cX5_reason 67 = .ok (.iconst 1, 1) := by decide +kernel
theorem dX5_reason_68 : decode cX5_reason 68 = .ok (.invokevirtual 53, 3) := by decide +kernel
theorem dX5_reason_71 : decode cX5_reason 71 = .ok (.if_icmp .ge 7, 3) := by decide +kernel
theorem dX5_reason_74 : decode cX5_reason 74 = .ok (.iconst 4, 1) := by decide +kernel
theorem dX5_reason_75 : decode cX5_reason 75 = .ok (.goto 4, 3) := by decide +kernel
theorem dX5_reason_78 : decode cX5_reason 78 = .ok (.iconst 0, 1) := by decide +kernel
theorem dX5_reason_79 : decode cX5_reason 79 = .ok (.ireturn, 1) := by decide +kernel
theorem dX5_tick_0 : decode cX5_tick 0 = .ok (.aload_n 0, 1) := by decide +kernel
theorem dX5_tick_1 : decode cX5_tick 1 = .ok (.getfield 7, 3) := by decide +kernel
theorem dX5_tick_4 : decode cX5_tick 4 = .ok (.bipush 6, 2) := by decide +kernel
theorem dX5_tick_6 : decode cX5_tick 6 = .ok (.iaload, 1) := by decide +kernel
theorem dX5_tick_7 : decode cX5_tick 7 = .ok (.ifCond .le 7, 3) := by decide +kernel
theorem dX5_tick_10 : decode cX5_tick 10 = .ok (.aload_n 0, 1) := by decide +kernel
theorem dX5_tick_11 : decode cX5_tick 11 = .ok (.invokevirtual 77, 3) := by decide +kernel
theorem dX5_tick_14 : decode cX5_tick 14 = .ok (.iconst 0, 1) := by decide +kernel
theorem dX5_tick_15 : decode cX5_tick 15 = .ok (.istore_n 1, 1) := by decide +kernel
theorem dX5_tick_16 : decode cX5_tick 16 = .ok (.iload_n 1, 1) := by decide +kernel
theorem dX5_tick_17 : decode cX5_tick 17 = .ok (.iconst 3, 1) := by decide +kernel
theorem dX5_tick_18 : decode cX5_tick 18 = .ok (.if_icmp .ge 22, 3) := by decide +kernel
theorem dX5_tick_21 : decode cX5_tick 21 = .ok (.aload_n 0, 1) := by decide +kernel
theorem dX5_tick_22 : decode cX5_tick 22 = .ok (.iload_n 1, 1) := by decide +kernel
theorem dX5_tick_23 : decode cX5_tick 23 = .ok (.invokevirtual 80, 3) := by decide +kernel
theorem dX5_tick_26 : decode cX5_tick 26 = .ok (.ifCond .ne 8, 3) := by decide +kernel
theorem dX5_tick_29 : decode cX5_tick 29 = .ok (.aload_n 0, 1) := by decide +kernel
theorem dX5_tick_30 : decode cX5_tick 30 = .ok (.iload_n 1, 1) := by decide +kernel
theorem dX5_tick_31 : decode cX5_tick 31 = .ok (.invokevirtual 83, 3) := by decide +kernel
theorem dX5_tick_34 : decode cX5_tick 34 = .ok (.iinc 1 1, 3) := by decide +kernel
theorem dX5_tick_37 : decode cX5_tick 37 = .ok (.goto (-21), 3) := by decide +kernel
theorem dX5_tick_40 : decode cX5_tick 40 = .ok (.aload_n 0, 1) := by decide +kernel
theorem dX5_tick_41 : decode cX5_tick 41 = .ok (.getfield 7, 3) := by decide +kernel
theorem dX5_tick_44 : decode cX5_tick 44 = .ok (.iconst 4, 1) := by decide +kernel
theorem dX5_tick_45 : decode cX5_tick 45 = .ok (.dup2, 1) := by decide +kernel
theorem dX5_tick_46 : decode cX5_tick 46 = .ok (.iaload, 1) := by decide +kernel
theorem dX5_tick_47 : decode cX5_tick 47 = .ok (.iconst 1, 1) := by decide +kernel
theorem dX5_tick_48 : decode cX5_tick 48 = .ok (.iadd, 1) := by decide +kernel
theorem dX5_tick_49 : decode cX5_tick 49 = .ok (.iastore, 1) := by decide +kernel
theorem dX5_tick_50 : decode cX5_tick 50 = .ok (.return_, 1) := by decide +kernel
theorem dX5_ticks_0 : decode cX5_ticks 0 = .ok (.aload_n 0, 1) := by decide +kernel
theorem dX5_ticks_1 : decode cX5_ticks 1 = .ok (.iconst 5, 1) := by decide +kernel
theorem dX5_ticks_2 : decode cX5_ticks 2 = .ok (.invokevirtual 86, 3) := by decide +kernel
theorem dX5_ticks_5 : decode cX5_ticks 5 = .ok (.istore_n 2, 1) := by decide +kernel
theorem dX5_ticks_6 : decode cX5_ticks 6 = .ok (.iconst 0, 1) := by decide +kernel
theorem dX5_ticks_7 : decode cX5_ticks 7 = .ok (.istore_n 3, 1) := by decide +kernel
theorem dX5_ticks_8 : decode cX5_ticks 8 = .ok (.iload_n 3, 1) := by decide +kernel
theorem dX5_ticks_9 : decode cX5_ticks 9 = .ok (.iload_n 1, 1) := by decide +kernel
theorem dX5_ticks_10 : decode cX5_ticks 10 = .ok (.if_icmp .ge 13, 3) := by decide +kernel
theorem dX5_ticks_13 : decode cX5_ticks 13 = .ok (.aload_n 0, 1) := by decide +kernel
theorem dX5_ticks_14 : decode cX5_ticks 14 = .ok (.invokevirtual 89, 3) := by decide +kernel
theorem dX5_ticks_17 : decode cX5_ticks 17 = .ok (.iinc 3 1, 3) := by decide +kernel
theorem dX5_ticks_20 : decode cX5_ticks 20 = .ok (.goto (-12), 3) := by decide +kernel
theorem dX5_ticks_23 : decode cX5_ticks 23 = .ok (.aload_n 0, 1) := by decide +kernel
theorem dX5_ticks_24 : decode cX5_ticks 24 = .ok (.iconst 5, 1) := by decide +kernel
theorem dX5_ticks_25 : decode cX5_ticks 25 = .ok (.invokevirtual 86, 3) := by decide +kernel
theorem dX5_ticks_28 : decode cX5_ticks 28 = .ok (.iload_n 2, 1) := by decide +kernel
theorem dX5_ticks_29 : decode cX5_ticks 29 = .ok (.isub, 1) := by decide +kernel
theorem dX5_ticks_30 : decode cX5_ticks 30 = .ok (.ireturn, 1) := by decide +kernel
theorem dX5_areBounds_0 : decode cX5_areBounds 0 = .ok (.iload_n 0, 1) := by decide +kernel
theorem dX5_areBounds_1 : decode cX5_areBounds 1 = .ok (.i2l, 1) := by decide +kernel
theorem dX5_areBounds_2 : decode cX5_areBounds 2 = .ok (.lconst 1, 1) := by decide +kernel
theorem dX5_areBounds_3 : decode cX5_areBounds 3 = .ok (.ldc2_w 92, 3) := by decide +kernel
theorem dX5_areBounds_6 : decode cX5_areBounds 6 = .ok (.invokestatic 41, 3) := by decide +kernel
theorem dX5_areBounds_9 : decode cX5_areBounds 9 = .ok (.ifCond .eq 19, 3) := by decide +kernel
theorem dX5_areBounds_12 : decode cX5_areBounds 12 = .ok (.iload_n 1, 1) := by decide +kernel
theorem dX5_areBounds_13 : decode cX5_areBounds 13 = .ok (.i2l, 1) := by decide +kernel
theorem dX5_areBounds_14 : decode cX5_areBounds 14 = .ok (.lconst 1, 1) := by decide +kernel
theorem dX5_areBounds_15 : decode cX5_areBounds 15 = .ok (.ldc2_w 94, 3) := by decide +kernel
theorem dX5_areBounds_18 : decode cX5_areBounds 18 = .ok (.invokestatic 41, 3) := by decide +kernel
theorem dX5_areBounds_21 : decode cX5_areBounds 21 = .ok (.ifCond .eq 7, 3) := by decide +kernel
theorem dX5_areBounds_24 : decode cX5_areBounds 24 = .ok (.iconst 1, 1) := by decide +kernel
theorem dX5_areBounds_25 : decode cX5_areBounds 25 = .ok (.goto 4, 3) := by decide +kernel
theorem dX5_areBounds_28 : decode cX5_areBounds 28 = .ok (.iconst 0, 1) := by decide +kernel
theorem dX5_areBounds_29 : decode cX5_areBounds 29 = .ok (.ireturn, 1) := by decide +kernel
theorem dX5_doBounds_0 : decode cX5_doBounds 0 = .ok (.aload_n 0, 1) := by decide +kernel
theorem dX5_doBounds_1 : decode cX5_doBounds 1 = .ok (.iload_n 1, 1) := by decide +kernel
theorem dX5_doBounds_2 : decode cX5_doBounds 2 = .ok (.iconst 0, 1) := by decide +kernel
theorem dX5_doBounds_3 : decode cX5_doBounds 3 = .ok (.invokevirtual 53, 3) := by decide +kernel
theorem dX5_doBounds_6 : decode cX5_doBounds 6 = .ok (.istore 4, 2) := by decide +kernel
theorem dX5_doBounds_8 : decode cX5_doBounds 8 = .ok (.aload_n 0, 1) := by decide +kernel
theorem dX5_doBounds_9 : decode cX5_doBounds 9 = .ok (.iload_n 1, 1) := by decide +kernel
theorem dX5_doBounds_10 : decode cX5_doBounds 10 = .ok (.iconst 0, 1) := by decide +kernel
theorem dX5_doBounds_11 : decode cX5_doBounds 11 = .ok (.iload_n 2, 1) := by decide +kernel
theorem dX5_doBounds_12 : decode cX5_doBounds 12 = .ok (.invokevirtual 31, 3) := by decide +kernel
theorem dX5_doBounds_15 : decode cX5_doBounds 15 = .ok (.aload_n 0, 1) := by decide +kernel
theorem dX5_doBounds_16 : decode cX5_doBounds 16 = .ok (.iload_n 1, 1) := by decide +kernel
theorem dX5_doBounds_17 : decode cX5_doBounds 17 = .ok (.iconst 1, 1) := by decide +kernel
theorem dX5_doBounds_18 : decode cX5_doBounds 18 = .ok (.iload_n 3, 1) := by decide +kernel
theorem dX5_doBounds_19 : decode cX5_doBounds 19 = .ok (.invokevirtual 31, 3) := by decide +kernel
theorem dX5_doBounds_22 : decode cX5_doBounds 22 = .ok (.aload_n 0, 1) := by decide +kernel
theorem dX5_doBounds_23 : decode cX5_doBounds 23 = .ok (.iload_n 1, 1) := by decide +kernel
theorem dX5_doBounds_24 : decode cX5_doBounds 24 = .ok (.iconst 2, 1) := by decide +kernel
theorem dX5_doBounds_25 : decode cX5_doBounds 25 = .ok (.iload_n 2, 1) := by decide +kernel
theorem dX5_doBounds_26 : decode cX5_doBounds 26 = .ok (.invokevirtual 31, 3) := by decide +kernel
theorem dX5_doBounds_29 : decode cX5_doBounds 29 = .ok (.iload 4, 2) := by decide +kernel
theorem dX5_doBounds_31 : decode cX5_doBounds 31 = .ok (.ireturn, 1) := by decide +kernel
theorem dX5_isSetting_0 : decode cX5_isSetting 0 = .ok (.iload_n 0, 1) := by decide +kernel
theorem dX5_isSetting_1 : decode cX5_isSetting 1 = .ok (.tableswitch 69 0 3 #[31, 41, 51, 59], 31) := by decide +kernel
theorem dX5_isSetting_32 : decode cX5_isSetting 32 = .ok (.iload_n 1, 1) := by decide +kernel
theorem dX5_isSetting_33 : decode cX5_isSetting 33 = .ok (.i2l, 1) := by decide +kernel
theorem dX5_isSetting_34 : decode cX5_isSetting 34 = .ok (.lconst 1, 1) := by decide +kernel
theorem dX5_isSetting_35 : decode cX5_isSetting 35 = .ok (.ldc2_w 92, 3) := by decide +kernel
theorem dX5_isSetting_38 : decode cX5_isSetting 38 = .ok (.invokestatic 41, 3) := by decide +kernel
theorem dX5_isSetting_41 : decode cX5_isSetting 41 = .ok (.ireturn, 1) := by decide +kernel
theorem dX5_isSetting_42 : decode cX5_isSetting 42 = .ok (.iload_n 1, 1) := by decide +kernel
theorem dX5_isSetting_43 : decode cX5_isSetting 43 = .ok (.i2l, 1) := by decide +kernel
theorem dX5_isSetting_44 : decode cX5_isSetting 44 = .ok (.lconst 1, 1) := by decide +kernel
theorem dX5_isSetting_45 : decode cX5_isSetting 45 = .ok (.ldc2_w 96, 3) := by decide +kernel
theorem dX5_isSetting_48 : decode cX5_isSetting 48 = .ok (.invokestatic 41, 3) := by decide +kernel
theorem dX5_isSetting_51 : decode cX5_isSetting 51 = .ok (.ireturn, 1) := by decide +kernel
theorem dX5_isSetting_52 : decode cX5_isSetting 52 = .ok (.iload_n 1, 1) := by decide +kernel
theorem dX5_isSetting_53 : decode cX5_isSetting 53 = .ok (.i2l, 1) := by decide +kernel
theorem dX5_isSetting_54 : decode cX5_isSetting 54 = .ok (.lconst 0, 1) := by decide +kernel
theorem dX5_isSetting_55 : decode cX5_isSetting 55 = .ok (.lconst 1, 1) := by decide +kernel
theorem dX5_isSetting_56 : decode cX5_isSetting 56 = .ok (.invokestatic 41, 3) := by decide +kernel
theorem dX5_isSetting_59 : decode cX5_isSetting 59 = .ok (.ireturn, 1) := by decide +kernel
theorem dX5_isSetting_60 : decode cX5_isSetting 60 = .ok (.iload_n 1, 1) := by decide +kernel
theorem dX5_isSetting_61 : decode cX5_isSetting 61 = .ok (.i2l, 1) := by decide +kernel
theorem dX5_isSetting_62 : decode cX5_isSetting 62 = .ok (.lconst 0, 1) := by decide +kernel
theorem dX5_isSetting_63 : decode cX5_isSetting 63 = .ok (.ldc2_w 98, 3) := by decide +kernel
theorem dX5_isSetting_66 : decode cX5_isSetting 66 = .ok (.invokestatic 41, 3) := by decide +kernel
theorem dX5_isSetting_69 : decode cX5_isSetting 69 = .ok (.ireturn, 1) := by decide +kernel
theorem dX5_isSetting_70 : decode cX5_isSetting 70 = .ok (.iconst 0, 1) := by decide +kernel
theorem dX5_isSetting_71 : decode cX5_isSetting 71 = .ok (.ireturn, 1) := by decide +kernel
theorem dX5_set_0 : decode cX5_set 0 = .ok (.iload_n 1, 1) := by decide +kernel
theorem dX5_set_1 : decode cX5_set 1 = .ok (.iload_n 2, 1) := by decide +kernel
theorem dX5_set_2 : decode cX5_set 2 = .ok (.invokestatic 100, 3) := by decide +kernel
theorem dX5_set_5 : decode cX5_set 5 = .ok (.ifCond .ne 6, 3) := by decide +kernel
theorem dX5_set_8 : decode cX5_set 8 = .ok (.bipush (-2), 2) := by decide +kernel
theorem dX5_set_10 : decode cX5_set 10 = .ok (.ireturn, 1) := by decide +kernel
theorem dX5_set_11 : decode cX5_set 11 = .ok (.aload_n 0, 1) := by decide +kernel
theorem dX5_set_12 : decode cX5_set 12 = .ok (.invokevirtual 103, 3) := by decide +kernel
theorem dX5_set_15 : decode cX5_set 15 = .ok (.aload_n 0, 1) := by decide +kernel
theorem dX5_set_16 : decode cX5_set 16 = .ok (.getfield 7, 3) := by decide +kernel
theorem dX5_set_19 : decode cX5_set 19 = .ok (.iload_n 1, 1) := by decide +kernel
theorem dX5_set_20 : decode cX5_set 20 = .ok (.iaload, 1) := by decide +kernel
theorem dX5_set_21 : decode cX5_set 21 = .ok (.istore_n 3, 1) := by decide +kernel
theorem dX5_set_22 : decode cX5_set 22 = .ok (.aload_n 0, 1) := by decide +kernel
theorem dX5_set_23 : decode cX5_set 23 = .ok (.getfield 7, 3) := by decide +kernel
theorem dX5_set_26 : decode cX5_set 26 = .ok (.iload_n 1, 1) := by decide +kernel
theorem dX5_set_27 : decode cX5_set 27 = .ok (.iload_n 2, 1) := by decide +kernel
theorem dX5_set_28 : decode cX5_set 28 = .ok (.iastore, 1) := by decide +kernel
theorem dX5_set_29 : decode cX5_set 29 = .ok (.iload_n 3, 1) := by decide +kernel
theorem dX5_set_30 : decode cX5_set 30 = .ok (.ireturn, 1) := by decide +kernel
theorem dX5_bounds_0 : decode cX5_bounds 0 = .ok (.iload_n 1, 1) := by decide +kernel
theorem dX5_bounds_1 : decode cX5_bounds 1 = .ok (.invokestatic 106, 3) := by decide +kernel
theorem dX5_bounds_4 : decode cX5_bounds 4 = .ok (.ifCond .ne 5, 3) := by decide +kernel
theorem dX5_bounds_7 : decode cX5_bounds 7 = .ok (.iconst (-1), 1) := by decide +kernel
theorem dX5_bounds_8 : decode cX5_bounds 8 = .ok (.ireturn, 1) := by decide +kernel
theorem dX5_bounds_9 : decode cX5_bounds 9 = .ok (.iload_n 2, 1) := by decide +kernel
theorem dX5_bounds_10 : decode cX5_bounds 10 = .ok (.iload_n 3, 1) := by decide +kernel
theorem dX5_bounds_11 : decode cX5_bounds 11 = .ok (.invokestatic 110, 3) := by decide +kernel
theorem dX5_bounds_14 : decode cX5_bounds 14 = .ok (.ifCond .ne 6, 3) := by decide +kernel
theorem dX5_bounds_17 : decode cX5_bounds 17 = .ok (.bipush (-2), 2) := by decide +kernel
theorem dX5_bounds_19 : decode cX5_bounds 19 = .ok (.ireturn, 1) := by decide +kernel
theorem dX5_bounds_20 : decode cX5_bounds 20 = .ok (.aload_n 0, 1) := by decide +kernel
theorem dX5_bounds_21 : decode cX5_bounds 21 = .ok (.invokevirtual 103, 3) := by decide +kernel
theorem dX5_bounds_24 : decode cX5_bounds 24 = .ok (.aload_n 0, 1) := by decide +kernel
theorem dX5_bounds_25 : decode cX5_bounds 25 = .ok (.iload_n 1, 1) := by decide +kernel
theorem dX5_bounds_26 : decode cX5_bounds 26 = .ok (.iload_n 2, 1) := by decide +kernel
theorem dX5_bounds_27 : decode cX5_bounds 27 = .ok (.iload_n 3, 1) := by decide +kernel
theorem dX5_bounds_28 : decode cX5_bounds 28 = .ok (.invokevirtual 113, 3) := by decide +kernel
theorem dX5_bounds_31 : decode cX5_bounds 31 = .ok (.ireturn, 1) := by decide +kernel
theorem dX5_come_0 : decode cX5_come 0 = .ok (.iload_n 1, 1) := by decide +kernel
theorem dX5_come_1 : decode cX5_come 1 = .ok (.i2l, 1) := by decide +kernel
theorem dX5_come_2 : decode cX5_come 2 = .ok (.lconst 0, 1) := by decide +kernel
theorem dX5_come_3 : decode cX5_come 3 = .ok (.ldc2_w 94, 3) := by decide +kernel
theorem dX5_come_6 : decode cX5_come 6 = .ok (.invokestatic 41, 3) := by decide +kernel
theorem dX5_come_9 : decode cX5_come 9 = .ok (.ifCond .ne 6, 3) := by decide +kernel
theorem dX5_come_12 : decode cX5_come 12 = .ok (.bipush (-2), 2) := by decide +kernel
theorem dX5_come_14 : decode cX5_come 14 = .ok (.ireturn, 1) := by decide +kernel
theorem dX5_come_15 : decode cX5_come 15 = .ok (.aload_n 0, 1) := by decide +kernel
theorem dX5_come_16 : decode cX5_come 16 = .ok (.getfield 7, 3) := by decide +kernel
theorem dX5_come_19 : decode cX5_come 19 = .ok (.iconst 5, 1) := by decide +kernel
theorem dX5_come_20 : decode cX5_come 20 = .ok (.iaload, 1) := by decide +kernel
theorem dX5_come_21 : decode cX5_come 21 = .ok (.sipush 400, 3) := by decide +kernel
theorem dX5_come_24 : decode cX5_come 24 = .ok (.if_icmp .ne 6, 3) := by decide +kernel
theorem dX5_come_27 : decode cX5_come 27 = .ok (.bipush (-4), 2) := by decide +kernel
theorem dX5_come_29 : decode cX5_come 29 = .ok (.ireturn, 1) := by decide +kernel
theorem dX5_come_30 : decode cX5_come 30 = .ok (.aload_n 0, 1) := by decide +kernel
theorem dX5_come_31 : decode cX5_come 31 = .ok (.invokevirtual 103, 3) := by decide +kernel
theorem dX5_come_34 : decode cX5_come 34 = .ok (.aload_n 0, 1) := by decide +kernel
theorem dX5_come_35 : decode cX5_come 35 = .ok (.iload_n 1, 1) := by decide +kernel
theorem dX5_come_36 : decode cX5_come 36 = .ok (.invokevirtual 117, 3) := by decide +kernel
theorem dX5_come_39 : decode cX5_come 39 = .ok (.ireturn, 1) := by decide +kernel
theorem dX5_mask_0 : decode cX5_mask 0 = .ok (.iload_n 1, 1) := by decide +kernel
theorem dX5_mask_1 : decode cX5_mask 1 = .ok (.invokestatic 106, 3) := by decide +kernel
theorem dX5_mask_4 : decode cX5_mask 4 = .ok (.ifCond .ne 5, 3) := by decide +kernel
theorem dX5_mask_7 : decode cX5_mask 7 = .ok (.iconst (-1), 1) := by decide +kernel
theorem dX5_mask_8 : decode cX5_mask 8 = .ok (.ireturn, 1) := by decide +kernel
theorem dX5_mask_9 : decode cX5_mask 9 = .ok (.aload_n 0, 1) := by decide +kernel
theorem dX5_mask_10 : decode cX5_mask 10 = .ok (.invokevirtual 103, 3) := by decide +kernel
theorem dX5_mask_13 : decode cX5_mask 13 = .ok (.aload_n 0, 1) := by decide +kernel
theorem dX5_mask_14 : decode cX5_mask 14 = .ok (.iload_n 1, 1) := by decide +kernel
theorem dX5_mask_15 : decode cX5_mask 15 = .ok (.iconst 3, 1) := by decide +kernel
theorem dX5_mask_16 : decode cX5_mask 16 = .ok (.iconst 1, 1) := by decide +kernel
theorem dX5_mask_17 : decode cX5_mask 17 = .ok (.aload_n 0, 1) := by decide +kernel
theorem dX5_mask_18 : decode cX5_mask 18 = .ok (.iload_n 1, 1) := by decide +kernel
theorem dX5_mask_19 : decode cX5_mask 19 = .ok (.iconst 3, 1) := by decide +kernel
theorem dX5_mask_20 : decode cX5_mask 20 = .ok (.invokevirtual 53, 3) := by decide +kernel
theorem dX5_mask_23 : decode cX5_mask 23 = .ok (.isub, 1) := by decide +kernel
theorem dX5_mask_24 : decode cX5_mask 24 = .ok (.invokevirtual 31, 3) := by decide +kernel
theorem dX5_mask_27 : decode cX5_mask 27 = .ok (.aload_n 0, 1) := by decide +kernel
theorem dX5_mask_28 : decode cX5_mask 28 = .ok (.iload_n 1, 1) := by decide +kernel
theorem dX5_mask_29 : decode cX5_mask 29 = .ok (.iconst 3, 1) := by decide +kernel
theorem dX5_mask_30 : decode cX5_mask 30 = .ok (.invokevirtual 53, 3) := by decide +kernel
theorem dX5_mask_33 : decode cX5_mask 33 = .ok (.ireturn, 1) := by decide +kernel
theorem dX5_call_0 : decode cX5_call 0 = .ok (.iload_n 1, 1) := by decide +kernel
theorem dX5_call_1 : decode cX5_call 1 = .ok (.invokestatic 106, 3) := by decide +kernel
theorem dX5_call_4 : decode cX5_call 4 = .ok (.ifCond .ne 5, 3) := by decide +kernel
theorem dX5_call_7 : decode cX5_call 7 = .ok (.iconst (-1), 1) := by decide +kernel
theorem dX5_call_8 : decode cX5_call 8 = .ok (.ireturn, 1) := by decide +kernel
theorem dX5_call_9 : decode cX5_call 9 = .ok (.aload_n 0, 1) := by decide +kernel
theorem dX5_call_10 : decode cX5_call 10 = .ok (.iload_n 1, 1) := by decide +kernel
theorem dX5_call_11 : decode cX5_call 11 = .ok (.invokevirtual 74, 3) := by decide +kernel
theorem dX5_call_14 : decode cX5_call 14 = .ok (.bipush (-6), 2) := by decide +kernel
theorem dX5_call_16 : decode cX5_call 16 = .ok (.if_icmp .ne 13, 3) := by decide +kernel
theorem dX5_call_19 : decode cX5_call 19 = .ok (.aload_n 0, 1) := by decide +kernel
theorem dX5_call_20 : decode cX5_call 20 = .ok (.iload_n 1, 1) := by decide +kernel
theorem dX5_call_21 : decode cX5_call 21 = .ok (.invokevirtual 63, 3) := by decide +kernel
theorem dX5_call_24 : decode cX5_call 24 = .ok (.bipush (-6), 2) := by decide +kernel
theorem dX5_call_26 : decode cX5_call 26 = .ok (.if_icmp .ne 6, 3) := by decide +kernel
theorem dX5_call_29 : decode cX5_call 29 = .ok (.bipush (-5), 2) := by decide +kernel
end
section
theorem dX5_call_31 : decode cX5_call 31 = .ok (.ireturn, 1) := by decide +kernel
theorem dX5_call_32 : decode cX5_call 32 = .ok (.aload_n 0, 1) := by decide +kernel
theorem dX5_call_33 : decode cX5_call 33 = .ok (.invokevirtual 103, 3) := by decide +kernel
theorem dX5_call_36 : decode cX5_call 36 = .ok (.aload_n 0, 1) := by decide +kernel
theorem dX5_call_37 : decode cX5_call 37 = .ok (.iload_n 1, 1) := by decide +kernel
theorem dX5_call_38 : decode cX5_call 38 = .ok (.invokevirtual 83, 3) := by decide +kernel
theorem dX5_call_41 : decode cX5_call 41 = .ok (.aload_n 0, 1) := by decide +kernel
theorem dX5_call_42 : decode cX5_call 42 = .ok (.getfield 7, 3) := by decide +kernel
theorem dX5_call_45 : decode cX5_call 45 = .ok (.bipush 6, 2) := by decide +kernel
theorem dX5_call_47 : decode cX5_call 47 = .ok (.iaload, 1) := by decide +kernel
theorem dX5_call_48 : decode cX5_call 48 = .ok (.iconst 1, 1) := by decide +kernel
theorem dX5_call_49 : decode cX5_call 49 = .ok (.isub, 1) := by decide +kernel
theorem dX5_call_50 : decode cX5_call 50 = .ok (.ireturn, 1) := by decide +kernel
theorem dX5_areTicks_0 : decode cX5_areTicks 0 = .ok (.iload_n 0, 1) := by decide +kernel
theorem dX5_areTicks_1 : decode cX5_areTicks 1 = .ok (.i2l, 1) := by decide +kernel
theorem dX5_areTicks_2 : decode cX5_areTicks 2 = .ok (.lconst 1, 1) := by decide +kernel
theorem dX5_areTicks_3 : decode cX5_areTicks 3 = .ok (.ldc2_w 94, 3) := by decide +kernel
theorem dX5_areTicks_6 : decode cX5_areTicks 6 = .ok (.invokestatic 41, 3) := by decide +kernel
theorem dX5_areTicks_9 : decode cX5_areTicks 9 = .ok (.ireturn, 1) := by decide +kernel
theorem dX5_pass_0 : decode cX5_pass 0 = .ok (.iload_n 1, 1) := by decide +kernel
theorem dX5_pass_1 : decode cX5_pass 1 = .ok (.invokestatic 120, 3) := by decide +kernel
theorem dX5_pass_4 : decode cX5_pass 4 = .ok (.ifCond .ne 6, 3) := by decide +kernel
theorem dX5_pass_7 : decode cX5_pass 7 = .ok (.bipush (-2), 2) := by decide +kernel
theorem dX5_pass_9 : decode cX5_pass 9 = .ok (.ireturn, 1) := by decide +kernel
theorem dX5_pass_10 : decode cX5_pass 10 = .ok (.aload_n 0, 1) := by decide +kernel
theorem dX5_pass_11 : decode cX5_pass 11 = .ok (.getfield 7, 3) := by decide +kernel
theorem dX5_pass_14 : decode cX5_pass 14 = .ok (.iconst 4, 1) := by decide +kernel
theorem dX5_pass_15 : decode cX5_pass 15 = .ok (.iaload, 1) := by decide +kernel
theorem dX5_pass_16 : decode cX5_pass 16 = .ok (.iload_n 1, 1) := by decide +kernel
theorem dX5_pass_17 : decode cX5_pass 17 = .ok (.iadd, 1) := by decide +kernel
theorem dX5_pass_18 : decode cX5_pass 18 = .ok (.sipush 9999, 3) := by decide +kernel
theorem dX5_pass_21 : decode cX5_pass 21 = .ok (.if_icmp .le 6, 3) := by decide +kernel
theorem dX5_pass_24 : decode cX5_pass 24 = .ok (.bipush (-5), 2) := by decide +kernel
theorem dX5_pass_26 : decode cX5_pass 26 = .ok (.ireturn, 1) := by decide +kernel
theorem dX5_pass_27 : decode cX5_pass 27 = .ok (.aload_n 0, 1) := by decide +kernel
theorem dX5_pass_28 : decode cX5_pass 28 = .ok (.invokevirtual 103, 3) := by decide +kernel
theorem dX5_pass_31 : decode cX5_pass 31 = .ok (.aload_n 0, 1) := by decide +kernel
theorem dX5_pass_32 : decode cX5_pass 32 = .ok (.iload_n 1, 1) := by decide +kernel
theorem dX5_pass_33 : decode cX5_pass 33 = .ok (.invokevirtual 123, 3) := by decide +kernel
theorem dX5_pass_36 : decode cX5_pass 36 = .ok (.ireturn, 1) := by decide +kernel
theorem dX5_of_0 : decode cX5_of 0 = .ok (.iload_n 1, 1) := by decide +kernel
theorem dX5_of_1 : decode cX5_of 1 = .ok (.invokestatic 106, 3) := by decide +kernel
theorem dX5_of_4 : decode cX5_of 4 = .ok (.ifCond .ne 5, 3) := by decide +kernel
theorem dX5_of_7 : decode cX5_of 7 = .ok (.iconst (-1), 1) := by decide +kernel
theorem dX5_of_8 : decode cX5_of 8 = .ok (.ireturn, 1) := by decide +kernel
theorem dX5_of_9 : decode cX5_of 9 = .ok (.iload_n 2, 1) := by decide +kernel
theorem dX5_of_10 : decode cX5_of 10 = .ok (.tableswitch 120 0 12 #[66, 66, 66, 73, 79, 95, 102, 102, 102, 102, 102, 102, 114], 66) := by decide +kernel
theorem dX5_of_76 : decode cX5_of 76 = .ok (.aload_n 0, 1) := by decide +kernel
theorem dX5_of_77 : decode cX5_of 77 = .ok (.iload_n 1, 1) := by decide +kernel
theorem dX5_of_78 : decode cX5_of 78 = .ok (.iload_n 2, 1) := by decide +kernel
theorem dX5_of_79 : decode cX5_of 79 = .ok (.invokevirtual 53, 3) := by decide +kernel
theorem dX5_of_82 : decode cX5_of 82 = .ok (.ireturn, 1) := by decide +kernel
theorem dX5_of_83 : decode cX5_of 83 = .ok (.aload_n 0, 1) := by decide +kernel
theorem dX5_of_84 : decode cX5_of 84 = .ok (.iload_n 1, 1) := by decide +kernel
theorem dX5_of_85 : decode cX5_of 85 = .ok (.invokevirtual 56, 3) := by decide +kernel
theorem dX5_of_88 : decode cX5_of 88 = .ok (.ireturn, 1) := by decide +kernel
theorem dX5_of_89 : decode cX5_of 89 = .ok (.aload_n 0, 1) := by decide +kernel
theorem dX5_of_90 : decode cX5_of 90 = .ok (.iload_n 1, 1) := by decide +kernel
theorem dX5_of_91 : decode cX5_of 91 = .ok (.invokevirtual 74, 3) := by decide +kernel
theorem dX5_of_94 : decode cX5_of 94 = .ok (.bipush (-6), 2) := by decide +kernel
theorem dX5_of_96 : decode cX5_of 96 = .ok (.if_icmp .ne 7, 3) := by decide +kernel
theorem dX5_of_99 : decode cX5_of 99 = .ok (.iconst 0, 1) := by decide +kernel
theorem dX5_of_100 : decode cX5_of 100 = .ok (.goto 4, 3) := by decide +kernel
theorem dX5_of_103 : decode cX5_of 103 = .ok (.iconst 1, 1) := by decide +kernel
theorem dX5_of_104 : decode cX5_of 104 = .ok (.ireturn, 1) := by decide +kernel
theorem dX5_of_105 : decode cX5_of 105 = .ok (.aload_n 0, 1) := by decide +kernel
theorem dX5_of_106 : decode cX5_of 106 = .ok (.iload_n 1, 1) := by decide +kernel
theorem dX5_of_107 : decode cX5_of 107 = .ok (.iconst 3, 1) := by decide +kernel
theorem dX5_of_108 : decode cX5_of 108 = .ok (.invokevirtual 53, 3) := by decide +kernel
theorem dX5_of_111 : decode cX5_of 111 = .ok (.ireturn, 1) := by decide +kernel
theorem dX5_of_112 : decode cX5_of 112 = .ok (.aload_n 0, 1) := by decide +kernel
theorem dX5_of_113 : decode cX5_of 113 = .ok (.iload_n 1, 1) := by decide +kernel
theorem dX5_of_114 : decode cX5_of 114 = .ok (.iconst 4, 1) := by decide +kernel
theorem dX5_of_115 : decode cX5_of 115 = .ok (.iload_n 2, 1) := by decide +kernel
theorem dX5_of_116 : decode cX5_of 116 = .ok (.iadd, 1) := by decide +kernel
theorem dX5_of_117 : decode cX5_of 117 = .ok (.bipush 6, 2) := by decide +kernel
theorem dX5_of_119 : decode cX5_of 119 = .ok (.isub, 1) := by decide +kernel
theorem dX5_of_120 : decode cX5_of 120 = .ok (.invokevirtual 53, 3) := by decide +kernel
theorem dX5_of_123 : decode cX5_of 123 = .ok (.ireturn, 1) := by decide +kernel
theorem dX5_of_124 : decode cX5_of 124 = .ok (.aload_n 0, 1) := by decide +kernel
theorem dX5_of_125 : decode cX5_of 125 = .ok (.iload_n 1, 1) := by decide +kernel
theorem dX5_of_126 : decode cX5_of 126 = .ok (.invokevirtual 63, 3) := by decide +kernel
theorem dX5_of_129 : decode cX5_of 129 = .ok (.ireturn, 1) := by decide +kernel
theorem dX5_of_130 : decode cX5_of 130 = .ok (.bipush (-2), 2) := by decide +kernel
theorem dX5_of_132 : decode cX5_of 132 = .ok (.ireturn, 1) := by decide +kernel
theorem dX5_isFrame_0 : decode cX5_isFrame 0 = .ok (.iload_n 1, 1) := by decide +kernel
theorem dX5_isFrame_1 : decode cX5_isFrame 1 = .ok (.i2l, 1) := by decide +kernel
theorem dX5_isFrame_2 : decode cX5_isFrame 2 = .ok (.lconst 0, 1) := by decide +kernel
theorem dX5_isFrame_3 : decode cX5_isFrame 3 = .ok (.aload_n 0, 1) := by decide +kernel
theorem dX5_isFrame_4 : decode cX5_isFrame 4 = .ok (.getfield 7, 3) := by decide +kernel
theorem dX5_isFrame_7 : decode cX5_isFrame 7 = .ok (.iconst 5, 1) := by decide +kernel
theorem dX5_isFrame_8 : decode cX5_isFrame 8 = .ok (.iaload, 1) := by decide +kernel
theorem dX5_isFrame_9 : decode cX5_isFrame 9 = .ok (.i2l, 1) := by decide +kernel
theorem dX5_isFrame_10 : decode cX5_isFrame 10 = .ok (.lconst 1, 1) := by decide +kernel
theorem dX5_isFrame_11 : decode cX5_isFrame 11 = .ok (.lsub, 1) := by decide +kernel
theorem dX5_isFrame_12 : decode cX5_isFrame 12 = .ok (.invokestatic 41, 3) := by decide +kernel
theorem dX5_isFrame_15 : decode cX5_isFrame 15 = .ok (.ireturn, 1) := by decide +kernel
theorem dX5_waitOf_0 : decode cX5_waitOf 0 = .ok (.aload_n 0, 1) := by decide +kernel
theorem dX5_waitOf_1 : decode cX5_waitOf 1 = .ok (.iload_n 1, 1) := by decide +kernel
theorem dX5_waitOf_2 : decode cX5_waitOf 2 = .ok (.iconst 2, 1) := by decide +kernel
theorem dX5_waitOf_3 : decode cX5_waitOf 3 = .ok (.invokevirtual 45, 3) := by decide +kernel
theorem dX5_waitOf_6 : decode cX5_waitOf 6 = .ok (.istore_n 2, 1) := by decide +kernel
theorem dX5_waitOf_7 : decode cX5_waitOf 7 = .ok (.iload_n 2, 1) := by decide +kernel
theorem dX5_waitOf_8 : decode cX5_waitOf 8 = .ok (.iconst 2, 1) := by decide +kernel
theorem dX5_waitOf_9 : decode cX5_waitOf 9 = .ok (.if_icmp .ne 8, 3) := by decide +kernel
theorem dX5_waitOf_12 : decode cX5_waitOf 12 = .ok (.bipush (-6), 2) := by decide +kernel
theorem dX5_waitOf_14 : decode cX5_waitOf 14 = .ok (.goto 30, 3) := by decide +kernel
theorem dX5_waitOf_17 : decode cX5_waitOf 17 = .ok (.iload_n 2, 1) := by decide +kernel
theorem dX5_waitOf_18 : decode cX5_waitOf 18 = .ok (.iconst 1, 1) := by decide +kernel
theorem dX5_waitOf_19 : decode cX5_waitOf 19 = .ok (.if_icmp .ne 12, 3) := by decide +kernel
theorem dX5_waitOf_22 : decode cX5_waitOf 22 = .ok (.aload_n 0, 1) := by decide +kernel
theorem dX5_waitOf_23 : decode cX5_waitOf 23 = .ok (.iload_n 1, 1) := by decide +kernel
theorem dX5_waitOf_24 : decode cX5_waitOf 24 = .ok (.iconst 3, 1) := by decide +kernel
theorem dX5_waitOf_25 : decode cX5_waitOf 25 = .ok (.invokevirtual 45, 3) := by decide +kernel
theorem dX5_waitOf_28 : decode cX5_waitOf 28 = .ok (.goto 16, 3) := by decide +kernel
theorem dX5_waitOf_31 : decode cX5_waitOf 31 = .ok (.aload_n 0, 1) := by decide +kernel
theorem dX5_waitOf_32 : decode cX5_waitOf 32 = .ok (.getfield 7, 3) := by decide +kernel
theorem dX5_waitOf_35 : decode cX5_waitOf 35 = .ok (.iconst 4, 1) := by decide +kernel
theorem dX5_waitOf_36 : decode cX5_waitOf 36 = .ok (.iaload, 1) := by decide +kernel
theorem dX5_waitOf_37 : decode cX5_waitOf 37 = .ok (.aload_n 0, 1) := by decide +kernel
theorem dX5_waitOf_38 : decode cX5_waitOf 38 = .ok (.iload_n 1, 1) := by decide +kernel
theorem dX5_waitOf_39 : decode cX5_waitOf 39 = .ok (.iconst 1, 1) := by decide +kernel
theorem dX5_waitOf_40 : decode cX5_waitOf 40 = .ok (.invokevirtual 45, 3) := by decide +kernel
theorem dX5_waitOf_43 : decode cX5_waitOf 43 = .ok (.isub, 1) := by decide +kernel
theorem dX5_waitOf_44 : decode cX5_waitOf 44 = .ok (.ireturn, 1) := by decide +kernel
theorem dX5_frame_0 : decode cX5_frame 0 = .ok (.aload_n 0, 1) := by decide +kernel
theorem dX5_frame_1 : decode cX5_frame 1 = .ok (.iload_n 1, 1) := by decide +kernel
theorem dX5_frame_2 : decode cX5_frame 2 = .ok (.invokevirtual 126, 3) := by decide +kernel
theorem dX5_frame_5 : decode cX5_frame 5 = .ok (.ifCond .ne 5, 3) := by decide +kernel
theorem dX5_frame_8 : decode cX5_frame 8 = .ok (.iconst (-1), 1) := by decide +kernel
theorem dX5_frame_9 : decode cX5_frame 9 = .ok (.ireturn, 1) := by decide +kernel
theorem dX5_frame_10 : decode cX5_frame 10 = .ok (.iload_n 2, 1) := by decide +kernel
theorem dX5_frame_11 : decode cX5_frame 11 = .ok (.i2l, 1) := by decide +kernel
theorem dX5_frame_12 : decode cX5_frame 12 = .ok (.lconst 0, 1) := by decide +kernel
theorem dX5_frame_13 : decode cX5_frame 13 = .ok (.ldc2_w 39, 3) := by decide +kernel
theorem dX5_frame_16 : decode cX5_frame 16 = .ok (.invokestatic 41, 3) := by decide +kernel
theorem dX5_frame_19 : decode cX5_frame 19 = .ok (.ifCond .eq 12, 3) := by decide +kernel
theorem dX5_frame_22 : decode cX5_frame 22 = .ok (.aload_n 0, 1) := by decide +kernel
theorem dX5_frame_23 : decode cX5_frame 23 = .ok (.iload_n 1, 1) := by decide +kernel
theorem dX5_frame_24 : decode cX5_frame 24 = .ok (.iload_n 2, 1) := by decide +kernel
theorem dX5_frame_25 : decode cX5_frame 25 = .ok (.invokevirtual 45, 3) := by decide +kernel
theorem dX5_frame_28 : decode cX5_frame 28 = .ok (.goto 18, 3) := by decide +kernel
theorem dX5_frame_31 : decode cX5_frame 31 = .ok (.iload_n 2, 1) := by decide +kernel
theorem dX5_frame_32 : decode cX5_frame 32 = .ok (.iconst 3, 1) := by decide +kernel
theorem dX5_frame_33 : decode cX5_frame 33 = .ok (.if_icmp .ne 11, 3) := by decide +kernel
theorem dX5_frame_36 : decode cX5_frame 36 = .ok (.aload_n 0, 1) := by decide +kernel
theorem dX5_frame_37 : decode cX5_frame 37 = .ok (.iload_n 1, 1) := by decide +kernel
theorem dX5_frame_38 : decode cX5_frame 38 = .ok (.invokevirtual 129, 3) := by decide +kernel
theorem dX5_frame_41 : decode cX5_frame 41 = .ok (.goto 5, 3) := by decide +kernel
theorem dX5_frame_44 : decode cX5_frame 44 = .ok (.bipush (-2), 2) := by decide +kernel
theorem dX5_frame_46 : decode cX5_frame 46 = .ok (.ireturn, 1) := by decide +kernel
theorem dX5_row_0 : decode cX5_row 0 = .ok (.iload_n 1, 1) := by decide +kernel
theorem dX5_row_1 : decode cX5_row 1 = .ok (.i2l, 1) := by decide +kernel
theorem dX5_row_2 : decode cX5_row 2 = .ok (.lconst 0, 1) := by decide +kernel
theorem dX5_row_3 : decode cX5_row 3 = .ok (.aload_n 0, 1) := by decide +kernel
theorem dX5_row_4 : decode cX5_row 4 = .ok (.getfield 7, 3) := by decide +kernel
theorem dX5_row_7 : decode cX5_row 7 = .ok (.bipush 6, 2) := by decide +kernel
theorem dX5_row_9 : decode cX5_row 9 = .ok (.iaload, 1) := by decide +kernel
theorem dX5_row_10 : decode cX5_row 10 = .ok (.i2l, 1) := by decide +kernel
theorem dX5_row_11 : decode cX5_row 11 = .ok (.lconst 1, 1) := by decide +kernel
theorem dX5_row_12 : decode cX5_row 12 = .ok (.lsub, 1) := by decide +kernel
theorem dX5_row_13 : decode cX5_row 13 = .ok (.invokestatic 41, 3) := by decide +kernel
theorem dX5_row_16 : decode cX5_row 16 = .ok (.ifCond .eq 15, 3) := by decide +kernel
theorem dX5_row_19 : decode cX5_row 19 = .ok (.aload_n 0, 1) := by decide +kernel
theorem dX5_row_20 : decode cX5_row 20 = .ok (.getfield 7, 3) := by decide +kernel
theorem dX5_row_23 : decode cX5_row 23 = .ok (.bipush 7, 2) := by decide +kernel
theorem dX5_row_25 : decode cX5_row 25 = .ok (.iload_n 1, 1) := by decide +kernel
theorem dX5_row_26 : decode cX5_row 26 = .ok (.iadd, 1) := by decide +kernel
theorem dX5_row_27 : decode cX5_row 27 = .ok (.iaload, 1) := by decide +kernel
theorem dX5_row_28 : decode cX5_row 28 = .ok (.goto 4, 3) := by decide +kernel
theorem dX5_row_31 : decode cX5_row 31 = .ok (.iconst (-1), 1) := by decide +kernel
theorem dX5_row_32 : decode cX5_row 32 = .ok (.ireturn, 1) := by decide +kernel
theorem dX5_count_0 : decode cX5_count 0 = .ok (.iload_n 1, 1) := by decide +kernel
theorem dX5_count_1 : decode cX5_count 1 = .ok (.tableswitch 150 0 12 #[67, 74, 81, 86, 92, 99, 105, 130, 130, 130, 130, 140, 145], 67) := by decide +kernel
theorem dX5_count_68 : decode cX5_count 68 = .ok (.aload_n 0, 1) := by decide +kernel
theorem dX5_count_69 : decode cX5_count 69 = .ok (.getfield 7, 3) := by decide +kernel
theorem dX5_count_72 : decode cX5_count 72 = .ok (.iconst 4, 1) := by decide +kernel
theorem dX5_count_73 : decode cX5_count 73 = .ok (.iaload, 1) := by decide +kernel
theorem dX5_count_74 : decode cX5_count 74 = .ok (.ireturn, 1) := by decide +kernel
theorem dX5_count_75 : decode cX5_count 75 = .ok (.aload_n 0, 1) := by decide +kernel
theorem dX5_count_76 : decode cX5_count 76 = .ok (.getfield 7, 3) := by decide +kernel
theorem dX5_count_79 : decode cX5_count 79 = .ok (.iconst 5, 1) := by decide +kernel
theorem dX5_count_80 : decode cX5_count 80 = .ok (.iaload, 1) := by decide +kernel
theorem dX5_count_81 : decode cX5_count 81 = .ok (.ireturn, 1) := by decide +kernel
theorem dX5_count_82 : decode cX5_count 82 = .ok (.aload_n 0, 1) := by decide +kernel
theorem dX5_count_83 : decode cX5_count 83 = .ok (.invokevirtual 132, 3) := by decide +kernel
theorem dX5_count_86 : decode cX5_count 86 = .ok (.ireturn, 1) := by decide +kernel
theorem dX5_count_87 : decode cX5_count 87 = .ok (.aload_n 0, 1) := by decide +kernel
theorem dX5_count_88 : decode cX5_count 88 = .ok (.iconst 5, 1) := by decide +kernel
theorem dX5_count_89 : decode cX5_count 89 = .ok (.invokevirtual 86, 3) := by decide +kernel
theorem dX5_count_92 : decode cX5_count 92 = .ok (.ireturn, 1) := by decide +kernel
theorem dX5_count_93 : decode cX5_count 93 = .ok (.aload_n 0, 1) := by decide +kernel
theorem dX5_count_94 : decode cX5_count 94 = .ok (.bipush 6, 2) := by decide +kernel
theorem dX5_count_96 : decode cX5_count 96 = .ok (.invokevirtual 86, 3) := by decide +kernel
theorem dX5_count_99 : decode cX5_count 99 = .ok (.ireturn, 1) := by decide +kernel
theorem dX5_count_100 : decode cX5_count 100 = .ok (.aload_n 0, 1) := by decide +kernel
theorem dX5_count_101 : decode cX5_count 101 = .ok (.iconst 4, 1) := by decide +kernel
theorem dX5_count_102 : decode cX5_count 102 = .ok (.invokevirtual 86, 3) := by decide +kernel
theorem dX5_count_105 : decode cX5_count 105 = .ok (.ireturn, 1) := by decide +kernel
theorem dX5_count_106 : decode cX5_count 106 = .ok (.aload_n 0, 1) := by decide +kernel
theorem dX5_count_107 : decode cX5_count 107 = .ok (.iconst 0, 1) := by decide +kernel
theorem dX5_count_108 : decode cX5_count 108 = .ok (.iconst 3, 1) := by decide +kernel
theorem dX5_count_109 : decode cX5_count 109 = .ok (.invokevirtual 53, 3) := by decide +kernel
theorem dX5_count_112 : decode cX5_count 112 = .ok (.iconst 2, 1) := by decide +kernel
theorem dX5_count_113 : decode cX5_count 113 = .ok (.aload_n 0, 1) := by decide +kernel
theorem dX5_count_114 : decode cX5_count 114 = .ok (.iconst 1, 1) := by decide +kernel
theorem dX5_count_115 : decode cX5_count 115 = .ok (.iconst 3, 1) := by decide +kernel
theorem dX5_count_116 : decode cX5_count 116 = .ok (.invokevirtual 53, 3) := by decide +kernel
theorem dX5_count_119 : decode cX5_count 119 = .ok (.imul, 1) := by decide +kernel
theorem dX5_count_120 : decode cX5_count 120 = .ok (.iadd, 1) := by decide +kernel
theorem dX5_count_121 : decode cX5_count 121 = .ok (.iconst 4, 1) := by decide +kernel
theorem dX5_count_122 : decode cX5_count 122 = .ok (.aload_n 0, 1) := by decide +kernel
theorem dX5_count_123 : decode cX5_count 123 = .ok (.iconst 2, 1) := by decide +kernel
theorem dX5_count_124 : decode cX5_count 124 = .ok (.iconst 3, 1) := by decide +kernel
theorem dX5_count_125 : decode cX5_count 125 = .ok (.invokevirtual 53, 3) := by decide +kernel
theorem dX5_count_128 : decode cX5_count 128 = .ok (.imul, 1) := by decide +kernel
theorem dX5_count_129 : decode cX5_count 129 = .ok (.iadd, 1) := by decide +kernel
theorem dX5_count_130 : decode cX5_count 130 = .ok (.ireturn, 1) := by decide +kernel
theorem dX5_count_131 : decode cX5_count 131 = .ok (.aload_n 0, 1) := by decide +kernel
theorem dX5_count_132 : decode cX5_count 132 = .ok (.getfield 7, 3) := by decide +kernel
theorem dX5_count_135 : decode cX5_count 135 = .ok (.iload_n 1, 1) := by decide +kernel
theorem dX5_count_136 : decode cX5_count 136 = .ok (.bipush 7, 2) := by decide +kernel
theorem dX5_count_138 : decode cX5_count 138 = .ok (.isub, 1) := by decide +kernel
theorem dX5_count_139 : decode cX5_count 139 = .ok (.iaload, 1) := by decide +kernel
theorem dX5_count_140 : decode cX5_count 140 = .ok (.ireturn, 1) := by decide +kernel
theorem dX5_count_141 : decode cX5_count 141 = .ok (.aload_n 0, 1) := by decide +kernel
theorem dX5_count_142 : decode cX5_count 142 = .ok (.getfield 136, 3) := by decide +kernel
theorem dX5_count_145 : decode cX5_count 145 = .ok (.ireturn, 1) := by decide +kernel
theorem dX5_count_146 : decode cX5_count 146 = .ok (.aload_n 0, 1) := by decide +kernel
theorem dX5_count_147 : decode cX5_count 147 = .ok (.getfield 35, 3) := by decide +kernel
theorem dX5_count_150 : decode cX5_count 150 = .ok (.ireturn, 1) := by decide +kernel
theorem dX5_count_151 : decode cX5_count 151 = .ok (.bipush (-2), 2) := by decide +kernel
theorem dX5_count_153 : decode cX5_count 153 = .ok (.ireturn, 1) := by decide +kernel
theorem dX5_why_0 : decode cX5_why 0 = .ok (.iload_n 1, 1) := by decide +kernel
theorem dX5_why_1 : decode cX5_why 1 = .ok (.invokestatic 106, 3) := by decide +kernel
theorem dX5_why_4 : decode cX5_why 4 = .ok (.ifCond .eq 11, 3) := by decide +kernel
theorem dX5_why_7 : decode cX5_why 7 = .ok (.aload_n 0, 1) := by decide +kernel
theorem dX5_why_8 : decode cX5_why 8 = .ok (.iload_n 1, 1) := by decide +kernel
theorem dX5_why_9 : decode cX5_why 9 = .ok (.invokevirtual 80, 3) := by decide +kernel
theorem dX5_why_12 : decode cX5_why 12 = .ok (.goto 4, 3) := by decide +kernel
theorem dX5_why_15 : decode cX5_why 15 = .ok (.iconst (-1), 1) := by decide +kernel
theorem dX5_why_16 : decode cX5_why 16 = .ok (.ireturn, 1) := by decide +kernel
theorem dX5_takenIn_0 : decode cX5_takenIn 0 = .ok (.aload_n 0, 1) := by decide +kernel
theorem dX5_takenIn_1 : decode cX5_takenIn 1 = .ok (.iload_n 1, 1) := by decide +kernel
theorem dX5_takenIn_2 : decode cX5_takenIn 2 = .ok (.invokevirtual 126, 3) := by decide +kernel
theorem dX5_takenIn_5 : decode cX5_takenIn 5 = .ok (.ifCond .ne 5, 3) := by decide +kernel
theorem dX5_takenIn_8 : decode cX5_takenIn 8 = .ok (.iconst (-1), 1) := by decide +kernel
theorem dX5_takenIn_9 : decode cX5_takenIn 9 = .ok (.ireturn, 1) := by decide +kernel
theorem dX5_takenIn_10 : decode cX5_takenIn 10 = .ok (.aload_n 0, 1) := by decide +kernel
theorem dX5_takenIn_11 : decode cX5_takenIn 11 = .ok (.iload_n 1, 1) := by decide +kernel
theorem dX5_takenIn_12 : decode cX5_takenIn 12 = .ok (.iconst 2, 1) := by decide +kernel
theorem dX5_takenIn_13 : decode cX5_takenIn 13 = .ok (.invokevirtual 45, 3) := by decide +kernel
theorem dX5_takenIn_16 : decode cX5_takenIn 16 = .ok (.ifCond .eq 6, 3) := by decide +kernel
theorem dX5_takenIn_19 : decode cX5_takenIn 19 = .ok (.bipush (-5), 2) := by decide +kernel
theorem dX5_takenIn_21 : decode cX5_takenIn 21 = .ok (.ireturn, 1) := by decide +kernel
theorem dX5_takenIn_22 : decode cX5_takenIn 22 = .ok (.aload_n 0, 1) := by decide +kernel
theorem dX5_takenIn_23 : decode cX5_takenIn 23 = .ok (.invokevirtual 139, 3) := by decide +kernel
theorem dX5_takenIn_26 : decode cX5_takenIn 26 = .ok (.iconst 0, 1) := by decide +kernel
theorem dX5_takenIn_27 : decode cX5_takenIn 27 = .ok (.istore_n 2, 1) := by decide +kernel
theorem dX5_takenIn_28 : decode cX5_takenIn 28 = .ok (.aload_n 0, 1) := by decide +kernel
theorem dX5_takenIn_29 : decode cX5_takenIn 29 = .ok (.iload_n 1, 1) := by decide +kernel
theorem dX5_takenIn_30 : decode cX5_takenIn 30 = .ok (.iconst 2, 1) := by decide +kernel
theorem dX5_takenIn_31 : decode cX5_takenIn 31 = .ok (.invokevirtual 45, 3) := by decide +kernel
theorem dX5_takenIn_34 : decode cX5_takenIn 34 = .ok (.ifCond .ne 20, 3) := by decide +kernel
theorem dX5_takenIn_37 : decode cX5_takenIn 37 = .ok (.iload_n 2, 1) := by decide +kernel
theorem dX5_takenIn_38 : decode cX5_takenIn 38 = .ok (.sipush 500, 3) := by decide +kernel
theorem dX5_takenIn_41 : decode cX5_takenIn 41 = .ok (.if_icmp .gt 13, 3) := by decide +kernel
theorem dX5_takenIn_44 : decode cX5_takenIn 44 = .ok (.aload_n 0, 1) := by decide +kernel
theorem dX5_takenIn_45 : decode cX5_takenIn 45 = .ok (.invokevirtual 89, 3) := by decide +kernel
theorem dX5_takenIn_48 : decode cX5_takenIn 48 = .ok (.iinc 2 1, 3) := by decide +kernel
theorem dX5_takenIn_51 : decode cX5_takenIn 51 = .ok (.goto (-23), 3) := by decide +kernel
theorem dX5_takenIn_54 : decode cX5_takenIn 54 = .ok (.aload_n 0, 1) := by decide +kernel
theorem dX5_takenIn_55 : decode cX5_takenIn 55 = .ok (.invokevirtual 142, 3) := by decide +kernel
theorem dX5_takenIn_58 : decode cX5_takenIn 58 = .ok (.iload_n 2, 1) := by decide +kernel
theorem dX5_takenIn_59 : decode cX5_takenIn 59 = .ok (.sipush 500, 3) := by decide +kernel
theorem dX5_takenIn_62 : decode cX5_takenIn 62 = .ok (.if_icmp .le 8, 3) := by decide +kernel
theorem dX5_takenIn_65 : decode cX5_takenIn 65 = .ok (.bipush (-6), 2) := by decide +kernel
theorem dX5_takenIn_67 : decode cX5_takenIn 67 = .ok (.goto 4, 3) := by decide +kernel
theorem dX5_takenIn_70 : decode cX5_takenIn 70 = .ok (.iload_n 2, 1) := by decide +kernel
theorem dX5_takenIn_71 : decode cX5_takenIn 71 = .ok (.ireturn, 1) := by decide +kernel
theorem dX5_would_0 : decode cX5_would 0 = .ok (.iload_n 1, 1) := by decide +kernel
theorem dX5_would_1 : decode cX5_would 1 = .ok (.invokestatic 120, 3) := by decide +kernel
theorem dX5_would_4 : decode cX5_would 4 = .ok (.ifCond .eq 15, 3) := by decide +kernel
theorem dX5_would_7 : decode cX5_would 7 = .ok (.iload_n 2, 1) := by decide +kernel
theorem dX5_would_8 : decode cX5_would 8 = .ok (.i2l, 1) := by decide +kernel
theorem dX5_would_9 : decode cX5_would 9 = .ok (.lconst 0, 1) := by decide +kernel
theorem dX5_would_10 : decode cX5_would 10 = .ok (.ldc2_w 145, 3) := by decide +kernel
theorem dX5_would_13 : decode cX5_would 13 = .ok (.invokestatic 41, 3) := by decide +kernel
theorem dX5_would_16 : decode cX5_would 16 = .ok (.ifCond .ne 6, 3) := by decide +kernel
theorem dX5_would_19 : decode cX5_would 19 = .ok (.bipush (-2), 2) := by decide +kernel
theorem dX5_would_21 : decode cX5_would 21 = .ok (.ireturn, 1) := by decide +kernel
theorem dX5_would_22 : decode cX5_would 22 = .ok (.aload_n 0, 1) := by decide +kernel
theorem dX5_would_23 : decode cX5_would 23 = .ok (.invokevirtual 139, 3) := by decide +kernel
theorem dX5_would_26 : decode cX5_would 26 = .ok (.aload_n 0, 1) := by decide +kernel
theorem dX5_would_27 : decode cX5_would 27 = .ok (.iconst 4, 1) := by decide +kernel
theorem dX5_would_28 : decode cX5_would 28 = .ok (.invokevirtual 86, 3) := by decide +kernel
theorem dX5_would_31 : decode cX5_would 31 = .ok (.istore_n 3, 1) := by decide +kernel
theorem dX5_would_32 : decode cX5_would 32 = .ok (.aload_n 0, 1) := by decide +kernel
theorem dX5_would_33 : decode cX5_would 33 = .ok (.bipush 7, 2) := by decide +kernel
theorem dX5_would_35 : decode cX5_would 35 = .ok (.invokevirtual 86, 3) := by decide +kernel
theorem dX5_would_38 : decode cX5_would 38 = .ok (.istore 4, 2) := by decide +kernel
theorem dX5_would_40 : decode cX5_would 40 = .ok (.aload_n 0, 1) := by decide +kernel
theorem dX5_would_41 : decode cX5_would 41 = .ok (.iload_n 1, 1) := by decide +kernel
theorem dX5_would_42 : decode cX5_would 42 = .ok (.invokevirtual 123, 3) := by decide +kernel
theorem dX5_would_45 : decode cX5_would 45 = .ok (.istore 5, 2) := by decide +kernel
theorem dX5_would_47 : decode cX5_would 47 = .ok (.iload_n 2, 1) := by decide +kernel
theorem dX5_would_48 : decode cX5_would 48 = .ok (.ifCond .ne 8, 3) := by decide +kernel
theorem dX5_would_51 : decode cX5_would 51 = .ok (.iload 5, 2) := by decide +kernel
theorem dX5_would_53 : decode cX5_would 53 = .ok (.goto 39, 3) := by decide +kernel
theorem dX5_would_56 : decode cX5_would 56 = .ok (.iload_n 2, 1) := by decide +kernel
theorem dX5_would_57 : decode cX5_would 57 = .ok (.iconst 1, 1) := by decide +kernel
theorem dX5_would_58 : decode cX5_would 58 = .ok (.if_icmp .ne 13, 3) := by decide +kernel
theorem dX5_would_61 : decode cX5_would 61 = .ok (.aload_n 0, 1) := by decide +kernel
theorem dX5_would_62 : decode cX5_would 62 = .ok (.iconst 4, 1) := by decide +kernel
theorem dX5_would_63 : decode cX5_would 63 = .ok (.invokevirtual 86, 3) := by decide +kernel
theorem dX5_would_66 : decode cX5_would 66 = .ok (.iload_n 3, 1) := by decide +kernel
theorem dX5_would_67 : decode cX5_would 67 = .ok (.isub, 1) := by decide +kernel
theorem dX5_would_68 : decode cX5_would 68 = .ok (.goto 24, 3) := by decide +kernel
theorem dX5_would_71 : decode cX5_would 71 = .ok (.iload_n 2, 1) := by decide +kernel
theorem dX5_would_72 : decode cX5_would 72 = .ok (.iconst 2, 1) := by decide +kernel
theorem dX5_would_73 : decode cX5_would 73 = .ok (.if_icmp .ne 15, 3) := by decide +kernel
theorem dX5_would_76 : decode cX5_would 76 = .ok (.aload_n 0, 1) := by decide +kernel
theorem dX5_would_77 : decode cX5_would 77 = .ok (.bipush 7, 2) := by decide +kernel
theorem dX5_would_79 : decode cX5_would 79 = .ok (.invokevirtual 86, 3) := by decide +kernel
theorem dX5_would_82 : decode cX5_would 82 = .ok (.iload 4, 2) := by decide +kernel
theorem dX5_would_84 : decode cX5_would 84 = .ok (.isub, 1) := by decide +kernel
theorem dX5_would_85 : decode cX5_would 85 = .ok (.goto 7, 3) := by decide +kernel
theorem dX5_would_88 : decode cX5_would 88 = .ok (.aload_n 0, 1) := by decide +kernel
theorem dX5_would_89 : decode cX5_would 89 = .ok (.invokevirtual 132, 3) := by decide +kernel
theorem dX5_would_92 : decode cX5_would 92 = .ok (.istore 6, 2) := by decide +kernel
theorem dX5_would_94 : decode cX5_would 94 = .ok (.aload_n 0, 1) := by decide +kernel
theorem dX5_would_95 : decode cX5_would 95 = .ok (.invokevirtual 142, 3) := by decide +kernel
theorem dX5_would_98 : decode cX5_would 98 = .ok (.iload 6, 2) := by decide +kernel
theorem dX5_would_100 : decode cX5_would 100 = .ok (.ireturn, 1) := by decide +kernel
theorem dX5_empties_0 : decode cX5_empties 0 = .ok (.iconst 0, 1) := by decide +kernel
theorem dX5_empties_1 : decode cX5_empties 1 = .ok (.istore_n 1, 1) := by decide +kernel
theorem dX5_empties_2 : decode cX5_empties 2 = .ok (.iload_n 1, 1) := by decide +kernel
theorem dX5_empties_3 : decode cX5_empties 3 = .ok (.iconst 3, 1) := by decide +kernel
theorem dX5_empties_4 : decode cX5_empties 4 = .ok (.if_icmp .ge 51, 3) := by decide +kernel
theorem dX5_empties_7 : decode cX5_empties 7 = .ok (.iconst 3, 1) := by decide +kernel
theorem dX5_empties_8 : decode cX5_empties 8 = .ok (.istore_n 2, 1) := by decide +kernel
theorem dX5_empties_9 : decode cX5_empties 9 = .ok (.iload_n 2, 1) := by decide +kernel
theorem dX5_empties_10 : decode cX5_empties 10 = .ok (.bipush 10, 2) := by decide +kernel
theorem dX5_empties_12 : decode cX5_empties 12 = .ok (.if_icmp .ge 16, 3) := by decide +kernel
theorem dX5_empties_15 : decode cX5_empties 15 = .ok (.aload_n 0, 1) := by decide +kernel
theorem dX5_empties_16 : decode cX5_empties 16 = .ok (.iload_n 1, 1) := by decide +kernel
theorem dX5_empties_17 : decode cX5_empties 17 = .ok (.iload_n 2, 1) := by decide +kernel
theorem dX5_empties_18 : decode cX5_empties 18 = .ok (.iconst 0, 1) := by decide +kernel
theorem dX5_empties_19 : decode cX5_empties 19 = .ok (.invokevirtual 31, 3) := by decide +kernel
theorem dX5_empties_22 : decode cX5_empties 22 = .ok (.iinc 2 1, 3) := by decide +kernel
theorem dX5_empties_25 : decode cX5_empties 25 = .ok (.goto (-16), 3) := by decide +kernel
theorem dX5_empties_28 : decode cX5_empties 28 = .ok (.aload_n 0, 1) := by decide +kernel
theorem dX5_empties_29 : decode cX5_empties 29 = .ok (.iload_n 1, 1) := by decide +kernel
theorem dX5_empties_30 : decode cX5_empties 30 = .ok (.iconst 2, 1) := by decide +kernel
theorem dX5_empties_31 : decode cX5_empties 31 = .ok (.aload_n 0, 1) := by decide +kernel
theorem dX5_empties_32 : decode cX5_empties 32 = .ok (.iload_n 1, 1) := by decide +kernel
theorem dX5_empties_33 : decode cX5_empties 33 = .ok (.iconst 0, 1) := by decide +kernel
theorem dX5_empties_34 : decode cX5_empties 34 = .ok (.invokevirtual 53, 3) := by decide +kernel
theorem dX5_empties_37 : decode cX5_empties 37 = .ok (.invokevirtual 31, 3) := by decide +kernel
theorem dX5_empties_40 : decode cX5_empties 40 = .ok (.aload_n 0, 1) := by decide +kernel
theorem dX5_empties_41 : decode cX5_empties 41 = .ok (.iload_n 1, 1) := by decide +kernel
theorem dX5_empties_42 : decode cX5_empties 42 = .ok (.bipush 8, 2) := by decide +kernel
theorem dX5_empties_44 : decode cX5_empties 44 = .ok (.bipush (-6), 2) := by decide +kernel
theorem dX5_empties_46 : decode cX5_empties 46 = .ok (.invokevirtual 31, 3) := by decide +kernel
theorem dX5_empties_49 : decode cX5_empties 49 = .ok (.iinc 1 1, 3) := by decide +kernel
theorem dX5_empties_52 : decode cX5_empties 52 = .ok (.goto (-50), 3) := by decide +kernel
theorem dX5_empties_55 : decode cX5_empties 55 = .ok (.aload_n 0, 1) := by decide +kernel
theorem dX5_empties_56 : decode cX5_empties 56 = .ok (.getfield 7, 3) := by decide +kernel
theorem dX5_empties_59 : decode cX5_empties 59 = .ok (.iconst 4, 1) := by decide +kernel
theorem dX5_empties_60 : decode cX5_empties 60 = .ok (.iconst 0, 1) := by decide +kernel
theorem dX5_empties_61 : decode cX5_empties 61 = .ok (.iastore, 1) := by decide +kernel
theorem dX5_empties_62 : decode cX5_empties 62 = .ok (.aload_n 0, 1) := by decide +kernel
theorem dX5_empties_63 : decode cX5_empties 63 = .ok (.getfield 7, 3) := by decide +kernel
theorem dX5_empties_66 : decode cX5_empties 66 = .ok (.iconst 5, 1) := by decide +kernel
theorem dX5_empties_67 : decode cX5_empties 67 = .ok (.iconst 0, 1) := by decide +kernel
theorem dX5_empties_68 : decode cX5_empties 68 = .ok (.iastore, 1) := by decide +kernel
theorem dX5_empties_69 : decode cX5_empties 69 = .ok (.aload_n 0, 1) := by decide +kernel
theorem dX5_empties_70 : decode cX5_empties 70 = .ok (.getfield 7, 3) := by decide +kernel
theorem dX5_empties_73 : decode cX5_empties 73 = .ok (.bipush 6, 2) := by decide +kernel
theorem dX5_empties_75 : decode cX5_empties 75 = .ok (.iconst 0, 1) := by decide +kernel
theorem dX5_empties_76 : decode cX5_empties 76 = .ok (.iastore, 1) := by decide +kernel
theorem dX5_empties_77 : decode cX5_empties 77 = .ok (.return_, 1) := by decide +kernel
theorem dX5_costs_0 : decode cX5_costs 0 = .ok (.aload_n 0, 1) := by decide +kernel
theorem dX5_costs_1 : decode cX5_costs 1 = .ok (.invokevirtual 139, 3) := by decide +kernel
theorem dX5_costs_4 : decode cX5_costs 4 = .ok (.aload_n 0, 1) := by decide +kernel
theorem dX5_costs_5 : decode cX5_costs 5 = .ok (.invokevirtual 147, 3) := by decide +kernel
theorem dX5_costs_8 : decode cX5_costs 8 = .ok (.aload_n 0, 1) := by decide +kernel
theorem dX5_costs_9 : decode cX5_costs 9 = .ok (.iload_n 1, 1) := by decide +kernel
theorem dX5_costs_10 : decode cX5_costs 10 = .ok (.iload_n 2, 1) := by decide +kernel
theorem dX5_costs_11 : decode cX5_costs 11 = .ok (.aload_n 0, 1) := by decide +kernel
theorem dX5_costs_12 : decode cX5_costs 12 = .ok (.iload_n 1, 1) := by decide +kernel
theorem dX5_costs_13 : decode cX5_costs 13 = .ok (.iconst 1, 1) := by decide +kernel
theorem dX5_costs_14 : decode cX5_costs 14 = .ok (.invokevirtual 53, 3) := by decide +kernel
theorem dX5_costs_17 : decode cX5_costs 17 = .ok (.invokevirtual 113, 3) := by decide +kernel
theorem dX5_costs_20 : decode cX5_costs 20 = .ok (.istore 4, 2) := by decide +kernel
theorem dX5_costs_22 : decode cX5_costs 22 = .ok (.iconst 0, 1) := by decide +kernel
theorem dX5_costs_23 : decode cX5_costs 23 = .ok (.istore 5, 2) := by decide +kernel
theorem dX5_costs_25 : decode cX5_costs 25 = .ok (.iload 5, 2) := by decide +kernel
theorem dX5_costs_27 : decode cX5_costs 27 = .ok (.bipush 16, 2) := by decide +kernel
theorem dX5_costs_29 : decode cX5_costs 29 = .ok (.if_icmp .ge 23, 3) := by decide +kernel
theorem dX5_costs_32 : decode cX5_costs 32 = .ok (.aload_n 0, 1) := by decide +kernel
theorem dX5_costs_33 : decode cX5_costs 33 = .ok (.iload_n 1, 1) := by decide +kernel
theorem dX5_costs_34 : decode cX5_costs 34 = .ok (.invokevirtual 117, 3) := by decide +kernel
theorem dX5_costs_37 : decode cX5_costs 37 = .ok (.istore 6, 2) := by decide +kernel
theorem dX5_costs_39 : decode cX5_costs 39 = .ok (.aload_n 0, 1) := by decide +kernel
theorem dX5_costs_40 : decode cX5_costs 40 = .ok (.iload_n 3, 1) := by decide +kernel
theorem dX5_costs_41 : decode cX5_costs 41 = .ok (.invokevirtual 123, 3) := by decide +kernel
theorem dX5_costs_44 : decode cX5_costs 44 = .ok (.istore 7, 2) := by decide +kernel
theorem dX5_costs_46 : decode cX5_costs 46 = .ok (.iinc 5 1, 3) := by decide +kernel
theorem dX5_costs_49 : decode cX5_costs 49 = .ok (.goto (-24), 3) := by decide +kernel
theorem dX5_costs_52 : decode cX5_costs 52 = .ok (.aload_n 0, 1) := by decide +kernel
theorem dX5_costs_53 : decode cX5_costs 53 = .ok (.invokevirtual 132, 3) := by decide +kernel
theorem dX5_costs_56 : decode cX5_costs 56 = .ok (.ifCond .le 10, 3) := by decide +kernel
theorem dX5_costs_59 : decode cX5_costs 59 = .ok (.aload_n 0, 1) := by decide +kernel
theorem dX5_costs_60 : decode cX5_costs 60 = .ok (.invokevirtual 89, 3) := by decide +kernel
theorem dX5_costs_63 : decode cX5_costs 63 = .ok (.goto (-11), 3) := by decide +kernel
theorem dX5_costs_66 : decode cX5_costs 66 = .ok (.aload_n 0, 1) := by decide +kernel
theorem dX5_costs_67 : decode cX5_costs 67 = .ok (.bipush 7, 2) := by decide +kernel
theorem dX5_costs_69 : decode cX5_costs 69 = .ok (.invokevirtual 86, 3) := by decide +kernel
theorem dX5_costs_72 : decode cX5_costs 72 = .ok (.aload_n 0, 1) := by decide +kernel
theorem dX5_costs_73 : decode cX5_costs 73 = .ok (.getfield 7, 3) := by decide +kernel
theorem dX5_costs_76 : decode cX5_costs 76 = .ok (.iconst 3, 1) := by decide +kernel
theorem dX5_costs_77 : decode cX5_costs 77 = .ok (.iaload, 1) := by decide +kernel
theorem dX5_costs_78 : decode cX5_costs 78 = .ok (.aload_n 0, 1) := by decide +kernel
theorem dX5_costs_79 : decode cX5_costs 79 = .ok (.iconst 4, 1) := by decide +kernel
theorem dX5_costs_80 : decode cX5_costs 80 = .ok (.invokevirtual 86, 3) := by decide +kernel
theorem dX5_costs_83 : decode cX5_costs 83 = .ok (.imul, 1) := by decide +kernel
theorem dX5_costs_84 : decode cX5_costs 84 = .ok (.iadd, 1) := by decide +kernel
theorem dX5_costs_85 : decode cX5_costs 85 = .ok (.istore 5, 2) := by decide +kernel
theorem dX5_costs_87 : decode cX5_costs 87 = .ok (.aload_n 0, 1) := by decide +kernel
theorem dX5_costs_88 : decode cX5_costs 88 = .ok (.invokevirtual 142, 3) := by decide +kernel
theorem dX5_costs_91 : decode cX5_costs 91 = .ok (.iload 5, 2) := by decide +kernel
theorem dX5_costs_93 : decode cX5_costs 93 = .ok (.ireturn, 1) := by decide +kernel
theorem dX5_bestCount_0 : decode cX5_bestCount 0 = .ok (.iload_n 1, 1) := by decide +kernel
theorem dX5_bestCount_1 : decode cX5_bestCount 1 = .ok (.invokestatic 106, 3) := by decide +kernel
theorem dX5_bestCount_4 : decode cX5_bestCount 4 = .ok (.ifCond .ne 5, 3) := by decide +kernel
theorem dX5_bestCount_7 : decode cX5_bestCount 7 = .ok (.iconst (-1), 1) := by decide +kernel
theorem dX5_bestCount_8 : decode cX5_bestCount 8 = .ok (.ireturn, 1) := by decide +kernel
theorem dX5_bestCount_9 : decode cX5_bestCount 9 = .ok (.iload_n 2, 1) := by decide +kernel
theorem dX5_bestCount_10 : decode cX5_bestCount 10 = .ok (.i2l, 1) := by decide +kernel
theorem dX5_bestCount_11 : decode cX5_bestCount 11 = .ok (.lconst 1, 1) := by decide +kernel
theorem dX5_bestCount_12 : decode cX5_bestCount 12 = .ok (.ldc2_w 150, 3) := by decide +kernel
theorem dX5_bestCount_15 : decode cX5_bestCount 15 = .ok (.invokestatic 41, 3) := by decide +kernel
theorem dX5_bestCount_18 : decode cX5_bestCount 18 = .ok (.ifCond .eq 13, 3) := by decide +kernel
theorem dX5_bestCount_21 : decode cX5_bestCount 21 = .ok (.iload_n 3, 1) := by decide +kernel
theorem dX5_bestCount_22 : decode cX5_bestCount 22 = .ok (.i2l, 1) := by decide +kernel
theorem dX5_bestCount_23 : decode cX5_bestCount 23 = .ok (.lconst 0, 1) := by decide +kernel
theorem dX5_bestCount_24 : decode cX5_bestCount 24 = .ok (.lconst 1, 1) := by decide +kernel
theorem dX5_bestCount_25 : decode cX5_bestCount 25 = .ok (.invokestatic 41, 3) := by decide +kernel
theorem dX5_bestCount_28 : decode cX5_bestCount 28 = .ok (.ifCond .ne 6, 3) := by decide +kernel
theorem dX5_bestCount_31 : decode cX5_bestCount 31 = .ok (.bipush (-2), 2) := by decide +kernel
theorem dX5_bestCount_33 : decode cX5_bestCount 33 = .ok (.ireturn, 1) := by decide +kernel
theorem dX5_bestCount_34 : decode cX5_bestCount 34 = .ok (.iconst 1, 1) := by decide +kernel
theorem dX5_bestCount_35 : decode cX5_bestCount 35 = .ok (.istore 4, 2) := by decide +kernel
theorem dX5_bestCount_37 : decode cX5_bestCount 37 = .ok (.aload_n 0, 1) := by decide +kernel
theorem dX5_bestCount_38 : decode cX5_bestCount 38 = .ok (.iload_n 1, 1) := by decide +kernel
theorem dX5_bestCount_39 : decode cX5_bestCount 39 = .ok (.iconst 1, 1) := by decide +kernel
theorem dX5_bestCount_40 : decode cX5_bestCount 40 = .ok (.iload_n 2, 1) := by decide +kernel
theorem dX5_bestCount_41 : decode cX5_bestCount 41 = .ok (.invokevirtual 152, 3) := by decide +kernel
theorem dX5_bestCount_44 : decode cX5_bestCount 44 = .ok (.istore 5, 2) := by decide +kernel
theorem dX5_bestCount_46 : decode cX5_bestCount 46 = .ok (.iconst 2, 1) := by decide +kernel
theorem dX5_bestCount_47 : decode cX5_bestCount 47 = .ok (.istore 6, 2) := by decide +kernel
theorem dX5_bestCount_49 : decode cX5_bestCount 49 = .ok (.iload 6, 2) := by decide +kernel
theorem dX5_bestCount_51 : decode cX5_bestCount 51 = .ok (.bipush 32, 2) := by decide +kernel
theorem dX5_bestCount_53 : decode cX5_bestCount 53 = .ok (.if_icmp .gt 51, 3) := by decide +kernel
theorem dX5_bestCount_56 : decode cX5_bestCount 56 = .ok (.aload_n 0, 1) := by decide +kernel
theorem dX5_bestCount_57 : decode cX5_bestCount 57 = .ok (.iload_n 1, 1) := by decide +kernel
theorem dX5_bestCount_58 : decode cX5_bestCount 58 = .ok (.iload 6, 2) := by decide +kernel
theorem dX5_bestCount_60 : decode cX5_bestCount 60 = .ok (.iload_n 2, 1) := by decide +kernel
theorem dX5_bestCount_61 : decode cX5_bestCount 61 = .ok (.invokevirtual 152, 3) := by decide +kernel
theorem dX5_bestCount_64 : decode cX5_bestCount 64 = .ok (.istore 7, 2) := by decide +kernel
theorem dX5_bestCount_66 : decode cX5_bestCount 66 = .ok (.iload 7, 2) := by decide +kernel
theorem dX5_bestCount_68 : decode cX5_bestCount 68 = .ok (.iload 5, 2) := by decide +kernel
theorem dX5_bestCount_70 : decode cX5_bestCount 70 = .ok (.if_icmp .ge 8, 3) := by decide +kernel
theorem dX5_bestCount_73 : decode cX5_bestCount 73 = .ok (.iload 6, 2) := by decide +kernel
theorem dX5_bestCount_75 : decode cX5_bestCount 75 = .ok (.goto 5, 3) := by decide +kernel
theorem dX5_bestCount_78 : decode cX5_bestCount 78 = .ok (.iload 4, 2) := by decide +kernel
theorem dX5_bestCount_80 : decode cX5_bestCount 80 = .ok (.istore 4, 2) := by decide +kernel
theorem dX5_bestCount_82 : decode cX5_bestCount 82 = .ok (.iload 7, 2) := by decide +kernel
theorem dX5_bestCount_84 : decode cX5_bestCount 84 = .ok (.iload 5, 2) := by decide +kernel
theorem dX5_bestCount_86 : decode cX5_bestCount 86 = .ok (.if_icmp .ge 8, 3) := by decide +kernel
theorem dX5_bestCount_89 : decode cX5_bestCount 89 = .ok (.iload 7, 2) := by decide +kernel
theorem dX5_bestCount_91 : decode cX5_bestCount 91 = .ok (.goto 5, 3) := by decide +kernel
theorem dX5_bestCount_94 : decode cX5_bestCount 94 = .ok (.iload 5, 2) := by decide +kernel
theorem dX5_bestCount_96 : decode cX5_bestCount 96 = .ok (.istore 5, 2) := by decide +kernel
theorem dX5_bestCount_98 : decode cX5_bestCount 98 = .ok (.iinc 6 1, 3) := by decide +kernel
theorem dX5_bestCount_101 : decode cX5_bestCount 101 = .ok (.goto (-52), 3) := by decide +kernel
theorem dX5_bestCount_104 : decode cX5_bestCount 104 = .ok (.iload_n 3, 1) := by decide +kernel
theorem dX5_bestCount_105 : decode cX5_bestCount 105 = .ok (.ifCond .ne 8, 3) := by decide +kernel
theorem dX5_bestCount_108 : decode cX5_bestCount 108 = .ok (.iload 4, 2) := by decide +kernel
theorem dX5_bestCount_110 : decode cX5_bestCount 110 = .ok (.goto 5, 3) := by decide +kernel
theorem dX5_bestCount_113 : decode cX5_bestCount 113 = .ok (.iload 5, 2) := by decide +kernel
theorem dX5_bestCount_115 : decode cX5_bestCount 115 = .ok (.ireturn, 1) := by decide +kernel
theorem dX5_charactersOf_0 : decode cX5_charactersOf 0 = .ok (.lload_n 0, 1) := by decide +kernel
theorem dX5_charactersOf_1 : decode cX5_charactersOf 1 = .ok (.lstore_n 2, 1) := by decide +kernel
theorem dX5_charactersOf_2 : decode cX5_charactersOf 2 = .ok (.iconst 0, 1) := by decide +kernel
theorem dX5_charactersOf_3 : decode cX5_charactersOf 3 = .ok (.istore 4, 2) := by decide +kernel
theorem dX5_charactersOf_5 : decode cX5_charactersOf 5 = .ok (.iload 4, 2) := by decide +kernel
theorem dX5_charactersOf_7 : decode cX5_charactersOf 7 = .ok (.bipush 8, 2) := by decide +kernel
theorem dX5_charactersOf_9 : decode cX5_charactersOf 9 = .ok (.if_icmp .ge 31, 3) := by decide +kernel
theorem dX5_charactersOf_12 : decode cX5_charactersOf 12 = .ok (.lload_n 2, 1) := by decide +kernel
theorem dX5_charactersOf_13 : decode cX5_charactersOf 13 = .ok (.ldc2_w 155, 3) := by decide +kernel
theorem dX5_charactersOf_16 : decode cX5_charactersOf 16 = .ok (.land, 1) := by decide +kernel
theorem dX5_charactersOf_17 : decode cX5_charactersOf 17 = .ok (.ldc2_w 157, 3) := by decide +kernel
theorem dX5_charactersOf_20 : decode cX5_charactersOf 20 = .ok (.ldc2_w 159, 3) := by decide +kernel
theorem dX5_charactersOf_23 : decode cX5_charactersOf 23 = .ok (.invokestatic 41, 3) := by decide +kernel
theorem dX5_charactersOf_26 : decode cX5_charactersOf 26 = .ok (.ifCond .eq 14, 3) := by decide +kernel
theorem dX5_charactersOf_29 : decode cX5_charactersOf 29 = .ok (.lload_n 2, 1) := by decide +kernel
theorem dX5_charactersOf_30 : decode cX5_charactersOf 30 = .ok (.bipush 8, 2) := by decide +kernel
theorem dX5_charactersOf_32 : decode cX5_charactersOf 32 = .ok (.lushr, 1) := by decide +kernel
theorem dX5_charactersOf_33 : decode cX5_charactersOf 33 = .ok (.lstore_n 2, 1) := by decide +kernel
theorem dX5_charactersOf_34 : decode cX5_charactersOf 34 = .ok (.iinc 4 1, 3) := by decide +kernel
theorem dX5_charactersOf_37 : decode cX5_charactersOf 37 = .ok (.goto (-32), 3) := by decide +kernel
theorem dX5_charactersOf_40 : decode cX5_charactersOf 40 = .ok (.lload_n 2, 1) := by decide +kernel
theorem dX5_charactersOf_41 : decode cX5_charactersOf 41 = .ok (.lconst 0, 1) := by decide +kernel
theorem dX5_charactersOf_42 : decode cX5_charactersOf 42 = .ok (.lcmp, 1) := by decide +kernel
theorem dX5_charactersOf_43 : decode cX5_charactersOf 43 = .ok (.ifCond .ne 8, 3) := by decide +kernel
theorem dX5_charactersOf_46 : decode cX5_charactersOf 46 = .ok (.iload 4, 2) := by decide +kernel
theorem dX5_charactersOf_48 : decode cX5_charactersOf 48 = .ok (.goto 4, 3) := by decide +kernel
theorem dX5_charactersOf_51 : decode cX5_charactersOf 51 = .ok (.iconst 0, 1) := by decide +kernel
theorem dX5_charactersOf_52 : decode cX5_charactersOf 52 = .ok (.ireturn, 1) := by decide +kernel
theorem dX5_put_0 : decode cX5_put 0 = .ok (.lload_n 1, 1) := by decide +kernel
theorem dX5_put_1 : decode cX5_put 1 = .ok (.invokestatic 161, 3) := by decide +kernel
theorem dX5_put_4 : decode cX5_put 4 = .ok (.istore_n 3, 1) := by decide +kernel
theorem dX5_put_5 : decode cX5_put 5 = .ok (.iload_n 3, 1) := by decide +kernel
theorem dX5_put_6 : decode cX5_put 6 = .ok (.ifCond .ne 6, 3) := by decide +kernel
theorem dX5_put_9 : decode cX5_put 9 = .ok (.bipush (-2), 2) := by decide +kernel
theorem dX5_put_11 : decode cX5_put 11 = .ok (.ireturn, 1) := by decide +kernel
theorem dX5_put_12 : decode cX5_put 12 = .ok (.aload_n 0, 1) := by decide +kernel
theorem dX5_put_13 : decode cX5_put 13 = .ok (.getfield 136, 3) := by decide +kernel
theorem dX5_put_16 : decode cX5_put 16 = .ok (.iload_n 3, 1) := by decide +kernel
theorem dX5_put_17 : decode cX5_put 17 = .ok (.iadd, 1) := by decide +kernel
theorem dX5_put_18 : decode cX5_put 18 = .ok (.bipush 80, 2) := by decide +kernel
theorem dX5_put_20 : decode cX5_put 20 = .ok (.if_icmp .le 6, 3) := by decide +kernel
theorem dX5_put_23 : decode cX5_put 23 = .ok (.bipush (-4), 2) := by decide +kernel
theorem dX5_put_25 : decode cX5_put 25 = .ok (.ireturn, 1) := by decide +kernel
theorem dX5_put_26 : decode cX5_put 26 = .ok (.iconst 0, 1) := by decide +kernel
theorem dX5_put_27 : decode cX5_put 27 = .ok (.istore 4, 2) := by decide +kernel
theorem dX5_put_29 : decode cX5_put 29 = .ok (.iload 4, 2) := by decide +kernel
theorem dX5_put_31 : decode cX5_put 31 = .ok (.iload_n 3, 1) := by decide +kernel
theorem dX5_put_32 : decode cX5_put 32 = .ok (.if_icmp .ge 37, 3) := by decide +kernel
theorem dX5_put_35 : decode cX5_put 35 = .ok (.aload_n 0, 1) := by decide +kernel
theorem dX5_put_36 : decode cX5_put 36 = .ok (.getfield 25, 3) := by decide +kernel
theorem dX5_put_39 : decode cX5_put 39 = .ok (.aload_n 0, 1) := by decide +kernel
theorem dX5_put_40 : decode cX5_put 40 = .ok (.getfield 136, 3) := by decide +kernel
theorem dX5_put_43 : decode cX5_put 43 = .ok (.iload 4, 2) := by decide +kernel
theorem dX5_put_45 : decode cX5_put 45 = .ok (.iadd, 1) := by decide +kernel
theorem dX5_put_46 : decode cX5_put 46 = .ok (.lload_n 1, 1) := by decide +kernel
theorem dX5_put_47 : decode cX5_put 47 = .ok (.bipush 8, 2) := by decide +kernel
theorem dX5_put_49 : decode cX5_put 49 = .ok (.iload_n 3, 1) := by decide +kernel
theorem dX5_put_50 : decode cX5_put 50 = .ok (.iconst 1, 1) := by decide +kernel
theorem dX5_put_51 : decode cX5_put 51 = .ok (.isub, 1) := by decide +kernel
theorem dX5_put_52 : decode cX5_put 52 = .ok (.iload 4, 2) := by decide +kernel
theorem dX5_put_54 : decode cX5_put 54 = .ok (.isub, 1) := by decide +kernel
theorem dX5_put_55 : decode cX5_put 55 = .ok (.imul, 1) := by decide +kernel
theorem dX5_put_56 : decode cX5_put 56 = .ok (.lushr, 1) := by decide +kernel
theorem dX5_put_57 : decode cX5_put 57 = .ok (.ldc2_w 155, 3) := by decide +kernel
theorem dX5_put_60 : decode cX5_put 60 = .ok (.land, 1) := by decide +kernel
theorem dX5_put_61 : decode cX5_put 61 = .ok (.l2i, 1) := by decide +kernel
theorem dX5_put_62 : decode cX5_put 62 = .ok (.iastore, 1) := by decide +kernel
theorem dX5_put_63 : decode cX5_put 63 = .ok (.iinc 4 1, 3) := by decide +kernel
theorem dX5_put_66 : decode cX5_put 66 = .ok (.goto (-37), 3) := by decide +kernel
theorem dX5_put_69 : decode cX5_put 69 = .ok (.aload_n 0, 1) := by decide +kernel
theorem dX5_put_70 : decode cX5_put 70 = .ok (.dup, 1) := by decide +kernel
theorem dX5_put_71 : decode cX5_put 71 = .ok (.getfield 136, 3) := by decide +kernel
theorem dX5_put_74 : decode cX5_put 74 = .ok (.iload_n 3, 1) := by decide +kernel
theorem dX5_put_75 : decode cX5_put 75 = .ok (.iadd, 1) := by decide +kernel
theorem dX5_put_76 : decode cX5_put 76 = .ok (.putfield 136, 3) := by decide +kernel
theorem dX5_put_79 : decode cX5_put 79 = .ok (.aload_n 0, 1) := by decide +kernel
theorem dX5_put_80 : decode cX5_put 80 = .ok (.getfield 136, 3) := by decide +kernel
theorem dX5_put_83 : decode cX5_put 83 = .ok (.ireturn, 1) := by decide +kernel
theorem dX5_wipe_0 : decode cX5_wipe 0 = .ok (.aload_n 0, 1) := by decide +kernel
theorem dX5_wipe_1 : decode cX5_wipe 1 = .ok (.getfield 136, 3) := by decide +kernel
theorem dX5_wipe_4 : decode cX5_wipe 4 = .ok (.istore_n 1, 1) := by decide +kernel
theorem dX5_wipe_5 : decode cX5_wipe 5 = .ok (.aload_n 0, 1) := by decide +kernel
theorem dX5_wipe_6 : decode cX5_wipe 6 = .ok (.iconst 0, 1) := by decide +kernel
theorem dX5_wipe_7 : decode cX5_wipe 7 = .ok (.putfield 136, 3) := by decide +kernel
theorem dX5_wipe_10 : decode cX5_wipe 10 = .ok (.iload_n 1, 1) := by decide +kernel
theorem dX5_wipe_11 : decode cX5_wipe 11 = .ok (.ireturn, 1) := by decide +kernel
theorem dX5_isHere_0 : decode cX5_isHere 0 = .ok (.aload_n 0, 1) := by decide +kernel
theorem dX5_isHere_1 : decode cX5_isHere 1 = .ok (.getfield 165, 3) := by decide +kernel
theorem dX5_isHere_4 : decode cX5_isHere 4 = .ok (.aload_n 0, 1) := by decide +kernel
theorem dX5_isHere_5 : decode cX5_isHere 5 = .ok (.getfield 136, 3) := by decide +kernel
theorem dX5_isHere_8 : decode cX5_isHere 8 = .ok (.if_icmp .ge 27, 3) := by decide +kernel
theorem dX5_isHere_11 : decode cX5_isHere 11 = .ok (.aload_n 0, 1) := by decide +kernel
theorem dX5_isHere_12 : decode cX5_isHere 12 = .ok (.getfield 25, 3) := by decide +kernel
theorem dX5_isHere_15 : decode cX5_isHere 15 = .ok (.aload_n 0, 1) := by decide +kernel
theorem dX5_isHere_16 : decode cX5_isHere 16 = .ok (.getfield 165, 3) := by decide +kernel
theorem dX5_isHere_19 : decode cX5_isHere 19 = .ok (.iaload, 1) := by decide +kernel
theorem dX5_isHere_20 : decode cX5_isHere 20 = .ok (.i2l, 1) := by decide +kernel
theorem dX5_isHere_21 : decode cX5_isHere 21 = .ok (.iload_n 1, 1) := by decide +kernel
theorem dX5_isHere_22 : decode cX5_isHere 22 = .ok (.i2l, 1) := by decide +kernel
theorem dX5_isHere_23 : decode cX5_isHere 23 = .ok (.iload_n 2, 1) := by decide +kernel
theorem dX5_isHere_24 : decode cX5_isHere 24 = .ok (.i2l, 1) := by decide +kernel
theorem dX5_isHere_25 : decode cX5_isHere 25 = .ok (.invokestatic 41, 3) := by decide +kernel
theorem dX5_isHere_28 : decode cX5_isHere 28 = .ok (.ifCond .eq 7, 3) := by decide +kernel
theorem dX5_isHere_31 : decode cX5_isHere 31 = .ok (.iconst 1, 1) := by decide +kernel
theorem dX5_isHere_32 : decode cX5_isHere 32 = .ok (.goto 4, 3) := by decide +kernel
theorem dX5_isHere_35 : decode cX5_isHere 35 = .ok (.iconst 0, 1) := by decide +kernel
theorem dX5_isHere_36 : decode cX5_isHere 36 = .ok (.ireturn, 1) := by decide +kernel
theorem dX5_takesOne_0 : decode cX5_takesOne 0 = .ok (.aload_n 0, 1) := by decide +kernel
theorem dX5_takesOne_1 : decode cX5_takesOne 1 = .ok (.iload_n 1, 1) := by decide +kernel
theorem dX5_takesOne_2 : decode cX5_takesOne 2 = .ok (.iload_n 1, 1) := by decide +kernel
theorem dX5_takesOne_3 : decode cX5_takesOne 3 = .ok (.invokevirtual 168, 3) := by decide +kernel
theorem dX5_takesOne_6 : decode cX5_takesOne 6 = .ok (.istore_n 2, 1) := by decide +kernel
theorem dX5_takesOne_7 : decode cX5_takesOne 7 = .ok (.aload_n 0, 1) := by decide +kernel
theorem dX5_takesOne_8 : decode cX5_takesOne 8 = .ok (.dup, 1) := by decide +kernel
theorem dX5_takesOne_9 : decode cX5_takesOne 9 = .ok (.getfield 165, 3) := by decide +kernel
theorem dX5_takesOne_12 : decode cX5_takesOne 12 = .ok (.iload_n 2, 1) := by decide +kernel
theorem dX5_takesOne_13 : decode cX5_takesOne 13 = .ok (.ifCond .eq 7, 3) := by decide +kernel
theorem dX5_takesOne_16 : decode cX5_takesOne 16 = .ok (.iconst 1, 1) := by decide +kernel
theorem dX5_takesOne_17 : decode cX5_takesOne 17 = .ok (.goto 4, 3) := by decide +kernel
theorem dX5_takesOne_20 : decode cX5_takesOne 20 = .ok (.iconst 0, 1) := by decide +kernel
theorem dX5_takesOne_21 : decode cX5_takesOne 21 = .ok (.iadd, 1) := by decide +kernel
theorem dX5_takesOne_22 : decode cX5_takesOne 22 = .ok (.putfield 165, 3) := by decide +kernel
theorem dX5_takesOne_25 : decode cX5_takesOne 25 = .ok (.iload_n 2, 1) := by decide +kernel
theorem dX5_takesOne_26 : decode cX5_takesOne 26 = .ok (.ireturn, 1) := by decide +kernel
theorem dX5_readsNumber_0 : decode cX5_readsNumber 0 = .ok (.aload_n 0, 1) := by decide +kernel
theorem dX5_readsNumber_1 : decode cX5_readsNumber 1 = .ok (.bipush 48, 2) := by decide +kernel
theorem dX5_readsNumber_3 : decode cX5_readsNumber 3 = .ok (.bipush 57, 2) := by decide +kernel
theorem dX5_readsNumber_5 : decode cX5_readsNumber 5 = .ok (.invokevirtual 168, 3) := by decide +kernel
theorem dX5_readsNumber_8 : decode cX5_readsNumber 8 = .ok (.ifCond .ne 5, 3) := by decide +kernel
theorem dX5_readsNumber_11 : decode cX5_readsNumber 11 = .ok (.iconst 0, 1) := by decide +kernel
theorem dX5_readsNumber_12 : decode cX5_readsNumber 12 = .ok (.ireturn, 1) := by decide +kernel
theorem dX5_readsNumber_13 : decode cX5_readsNumber 13 = .ok (.aload_n 0, 1) := by decide +kernel
theorem dX5_readsNumber_14 : decode cX5_readsNumber 14 = .ok (.getfield 25, 3) := by decide +kernel
theorem dX5_readsNumber_17 : decode cX5_readsNumber 17 = .ok (.aload_n 0, 1) := by decide +kernel
theorem dX5_readsNumber_18 : decode cX5_readsNumber 18 = .ok (.getfield 165, 3) := by decide +kernel
theorem dX5_readsNumber_21 : decode cX5_readsNumber 21 = .ok (.iaload, 1) := by decide +kernel
theorem dX5_readsNumber_22 : decode cX5_readsNumber 22 = .ok (.bipush 48, 2) := by decide +kernel
theorem dX5_readsNumber_24 : decode cX5_readsNumber 24 = .ok (.isub, 1) := by decide +kernel
theorem dX5_readsNumber_25 : decode cX5_readsNumber 25 = .ok (.istore_n 3, 1) := by decide +kernel
theorem dX5_readsNumber_26 : decode cX5_readsNumber 26 = .ok (.aload_n 0, 1) := by decide +kernel
theorem dX5_readsNumber_27 : decode cX5_readsNumber 27 = .ok (.dup, 1) := by decide +kernel
theorem dX5_readsNumber_28 : decode cX5_readsNumber 28 = .ok (.getfield 165, 3) := by decide +kernel
theorem dX5_readsNumber_31 : decode cX5_readsNumber 31 = .ok (.iconst 1, 1) := by decide +kernel
theorem dX5_readsNumber_32 : decode cX5_readsNumber 32 = .ok (.iadd, 1) := by decide +kernel
theorem dX5_readsNumber_33 : decode cX5_readsNumber 33 = .ok (.putfield 165, 3) := by decide +kernel
theorem dX5_readsNumber_36 : decode cX5_readsNumber 36 = .ok (.iload_n 2, 1) := by decide +kernel
theorem dX5_readsNumber_37 : decode cX5_readsNumber 37 = .ok (.iconst 2, 1) := by decide +kernel
theorem dX5_readsNumber_38 : decode cX5_readsNumber 38 = .ok (.if_icmp .ne 46, 3) := by decide +kernel
theorem dX5_readsNumber_41 : decode cX5_readsNumber 41 = .ok (.iload_n 3, 1) := by decide +kernel
theorem dX5_readsNumber_42 : decode cX5_readsNumber 42 = .ok (.ifCond .le 42, 3) := by decide +kernel
theorem dX5_readsNumber_45 : decode cX5_readsNumber 45 = .ok (.aload_n 0, 1) := by decide +kernel
theorem dX5_readsNumber_46 : decode cX5_readsNumber 46 = .ok (.bipush 48, 2) := by decide +kernel
theorem dX5_readsNumber_48 : decode cX5_readsNumber 48 = .ok (.bipush 57, 2) := by decide +kernel
theorem dX5_readsNumber_50 : decode cX5_readsNumber 50 = .ok (.invokevirtual 168, 3) := by decide +kernel
theorem dX5_readsNumber_53 : decode cX5_readsNumber 53 = .ok (.ifCond .eq 31, 3) := by decide +kernel
theorem dX5_readsNumber_56 : decode cX5_readsNumber 56 = .ok (.bipush 10, 2) := by decide +kernel
theorem dX5_readsNumber_58 : decode cX5_readsNumber 58 = .ok (.iload_n 3, 1) := by decide +kernel
theorem dX5_readsNumber_59 : decode cX5_readsNumber 59 = .ok (.imul, 1) := by decide +kernel
theorem dX5_readsNumber_60 : decode cX5_readsNumber 60 = .ok (.aload_n 0, 1) := by decide +kernel
theorem dX5_readsNumber_61 : decode cX5_readsNumber 61 = .ok (.getfield 25, 3) := by decide +kernel
theorem dX5_readsNumber_64 : decode cX5_readsNumber 64 = .ok (.aload_n 0, 1) := by decide +kernel
theorem dX5_readsNumber_65 : decode cX5_readsNumber 65 = .ok (.getfield 165, 3) := by decide +kernel
theorem dX5_readsNumber_68 : decode cX5_readsNumber 68 = .ok (.iaload, 1) := by decide +kernel
theorem dX5_readsNumber_69 : decode cX5_readsNumber 69 = .ok (.iadd, 1) := by decide +kernel
theorem dX5_readsNumber_70 : decode cX5_readsNumber 70 = .ok (.bipush 48, 2) := by decide +kernel
theorem dX5_readsNumber_72 : decode cX5_readsNumber 72 = .ok (.isub, 1) := by decide +kernel
theorem dX5_readsNumber_73 : decode cX5_readsNumber 73 = .ok (.istore_n 3, 1) := by decide +kernel
theorem dX5_readsNumber_74 : decode cX5_readsNumber 74 = .ok (.aload_n 0, 1) := by decide +kernel
theorem dX5_readsNumber_75 : decode cX5_readsNumber 75 = .ok (.dup, 1) := by decide +kernel
theorem dX5_readsNumber_76 : decode cX5_readsNumber 76 = .ok (.getfield 165, 3) := by decide +kernel
theorem dX5_readsNumber_79 : decode cX5_readsNumber 79 = .ok (.iconst 1, 1) := by decide +kernel
theorem dX5_readsNumber_80 : decode cX5_readsNumber 80 = .ok (.iadd, 1) := by decide +kernel
theorem dX5_readsNumber_81 : decode cX5_readsNumber 81 = .ok (.putfield 165, 3) := by decide +kernel
theorem dX5_readsNumber_84 : decode cX5_readsNumber 84 = .ok (.aload_n 0, 1) := by decide +kernel
theorem dX5_readsNumber_85 : decode cX5_readsNumber 85 = .ok (.getfield 28, 3) := by decide +kernel
theorem dX5_readsNumber_88 : decode cX5_readsNumber 88 = .ok (.iload_n 1, 1) := by decide +kernel
theorem dX5_readsNumber_89 : decode cX5_readsNumber 89 = .ok (.iload_n 3, 1) := by decide +kernel
theorem dX5_readsNumber_90 : decode cX5_readsNumber 90 = .ok (.iastore, 1) := by decide +kernel
theorem dX5_readsNumber_91 : decode cX5_readsNumber 91 = .ok (.iconst 1, 1) := by decide +kernel
theorem dX5_readsNumber_92 : decode cX5_readsNumber 92 = .ok (.ireturn, 1) := by decide +kernel
theorem dX5_readsOrder_0 : decode cX5_readsOrder 0 = .ok (.aload_n 0, 1) := by decide +kernel
theorem dX5_readsOrder_1 : decode cX5_readsOrder 1 = .ok (.aload_n 0, 1) := by decide +kernel
theorem dX5_readsOrder_2 : decode cX5_readsOrder 2 = .ok (.getfield 165, 3) := by decide +kernel
theorem dX5_readsOrder_5 : decode cX5_readsOrder 5 = .ok (.aload_n 0, 1) := by decide +kernel
theorem dX5_readsOrder_6 : decode cX5_readsOrder 6 = .ok (.getfield 136, 3) := by decide +kernel
theorem dX5_readsOrder_9 : decode cX5_readsOrder 9 = .ok (.if_icmp .ge 15, 3) := by decide +kernel
theorem dX5_readsOrder_12 : decode cX5_readsOrder 12 = .ok (.aload_n 0, 1) := by decide +kernel
theorem dX5_readsOrder_13 : decode cX5_readsOrder 13 = .ok (.getfield 25, 3) := by decide +kernel
theorem dX5_readsOrder_16 : decode cX5_readsOrder 16 = .ok (.aload_n 0, 1) := by decide +kernel
theorem dX5_readsOrder_17 : decode cX5_readsOrder 17 = .ok (.getfield 165, 3) := by decide +kernel
theorem dX5_readsOrder_20 : decode cX5_readsOrder 20 = .ok (.iaload, 1) := by decide +kernel
theorem dX5_readsOrder_21 : decode cX5_readsOrder 21 = .ok (.goto 4, 3) := by decide +kernel
theorem dX5_readsOrder_24 : decode cX5_readsOrder 24 = .ok (.iconst 0, 1) := by decide +kernel
theorem dX5_readsOrder_25 : decode cX5_readsOrder 25 = .ok (.putfield 171, 3) := by decide +kernel
theorem dX5_readsOrder_28 : decode cX5_readsOrder 28 = .ok (.aload_n 0, 1) := by decide +kernel
theorem dX5_readsOrder_29 : decode cX5_readsOrder 29 = .ok (.bipush 102, 2) := by decide +kernel
theorem dX5_readsOrder_31 : decode cX5_readsOrder 31 = .ok (.invokevirtual 174, 3) := by decide +kernel
theorem dX5_readsOrder_34 : decode cX5_readsOrder 34 = .ok (.ifCond .eq 45, 3) := by decide +kernel
theorem dX5_readsOrder_37 : decode cX5_readsOrder 37 = .ok (.aload_n 0, 1) := by decide +kernel
theorem dX5_readsOrder_38 : decode cX5_readsOrder 38 = .ok (.iconst 0, 1) := by decide +kernel
theorem dX5_readsOrder_39 : decode cX5_readsOrder 39 = .ok (.iconst 2, 1) := by decide +kernel
theorem dX5_readsOrder_40 : decode cX5_readsOrder 40 = .ok (.invokevirtual 177, 3) := by decide +kernel
theorem dX5_readsOrder_43 : decode cX5_readsOrder 43 = .ok (.istore_n 1, 1) := by decide +kernel
theorem dX5_readsOrder_44 : decode cX5_readsOrder 44 = .ok (.aload_n 0, 1) := by decide +kernel
theorem dX5_readsOrder_45 : decode cX5_readsOrder 45 = .ok (.getfield 28, 3) := by decide +kernel
theorem dX5_readsOrder_48 : decode cX5_readsOrder 48 = .ok (.iconst 1, 1) := by decide +kernel
theorem dX5_readsOrder_49 : decode cX5_readsOrder 49 = .ok (.iconst 1, 1) := by decide +kernel
theorem dX5_readsOrder_50 : decode cX5_readsOrder 50 = .ok (.iastore, 1) := by decide +kernel
theorem dX5_readsOrder_51 : decode cX5_readsOrder 51 = .ok (.iload_n 1, 1) := by decide +kernel
theorem dX5_readsOrder_52 : decode cX5_readsOrder 52 = .ok (.ifCond .eq 25, 3) := by decide +kernel
theorem dX5_readsOrder_55 : decode cX5_readsOrder 55 = .ok (.aload_n 0, 1) := by decide +kernel
theorem dX5_readsOrder_56 : decode cX5_readsOrder 56 = .ok (.bipush 42, 2) := by decide +kernel
theorem dX5_readsOrder_58 : decode cX5_readsOrder 58 = .ok (.invokevirtual 174, 3) := by decide +kernel
theorem dX5_readsOrder_61 : decode cX5_readsOrder 61 = .ok (.ifCond .eq 12, 3) := by decide +kernel
theorem dX5_readsOrder_64 : decode cX5_readsOrder 64 = .ok (.aload_n 0, 1) := by decide +kernel
theorem dX5_readsOrder_65 : decode cX5_readsOrder 65 = .ok (.iconst 1, 1) := by decide +kernel
theorem dX5_readsOrder_66 : decode cX5_readsOrder 66 = .ok (.iconst 2, 1) := by decide +kernel
theorem dX5_readsOrder_67 : decode cX5_readsOrder 67 = .ok (.invokevirtual 177, 3) := by decide +kernel
theorem dX5_readsOrder_70 : decode cX5_readsOrder 70 = .ok (.ifCond .eq 7, 3) := by decide +kernel
theorem dX5_readsOrder_73 : decode cX5_readsOrder 73 = .ok (.iconst 1, 1) := by decide +kernel
theorem dX5_readsOrder_74 : decode cX5_readsOrder 74 = .ok (.goto 4, 3) := by decide +kernel
theorem dX5_readsOrder_77 : decode cX5_readsOrder 77 = .ok (.iconst 0, 1) := by decide +kernel
theorem dX5_readsOrder_78 : decode cX5_readsOrder 78 = .ok (.ireturn, 1) := by decide +kernel
theorem dX5_readsOrder_79 : decode cX5_readsOrder 79 = .ok (.aload_n 0, 1) := by decide +kernel
theorem dX5_readsOrder_80 : decode cX5_readsOrder 80 = .ok (.bipush 116, 2) := by decide +kernel
theorem dX5_readsOrder_82 : decode cX5_readsOrder 82 = .ok (.invokevirtual 174, 3) := by decide +kernel
theorem dX5_readsOrder_85 : decode cX5_readsOrder 85 = .ok (.ifCond .eq 10, 3) := by decide +kernel
theorem dX5_readsOrder_88 : decode cX5_readsOrder 88 = .ok (.aload_n 0, 1) := by decide +kernel
theorem dX5_readsOrder_89 : decode cX5_readsOrder 89 = .ok (.iconst 0, 1) := by decide +kernel
theorem dX5_readsOrder_90 : decode cX5_readsOrder 90 = .ok (.iconst 2, 1) := by decide +kernel
theorem dX5_readsOrder_91 : decode cX5_readsOrder 91 = .ok (.invokevirtual 177, 3) := by decide +kernel
theorem dX5_readsOrder_94 : decode cX5_readsOrder 94 = .ok (.ireturn, 1) := by decide +kernel
theorem dX5_readsOrder_95 : decode cX5_readsOrder 95 = .ok (.aload_n 0, 1) := by decide +kernel
theorem dX5_readsOrder_96 : decode cX5_readsOrder 96 = .ok (.bipush 113, 2) := by decide +kernel
theorem dX5_readsOrder_98 : decode cX5_readsOrder 98 = .ok (.invokevirtual 174, 3) := by decide +kernel
theorem dX5_readsOrder_101 : decode cX5_readsOrder 101 = .ok (.ifCond .eq 54, 3) := by decide +kernel
theorem dX5_readsOrder_104 : decode cX5_readsOrder 104 = .ok (.aload_n 0, 1) := by decide +kernel
theorem dX5_readsOrder_105 : decode cX5_readsOrder 105 = .ok (.iconst 0, 1) := by decide +kernel
theorem dX5_readsOrder_106 : decode cX5_readsOrder 106 = .ok (.iconst 1, 1) := by decide +kernel
theorem dX5_readsOrder_107 : decode cX5_readsOrder 107 = .ok (.invokevirtual 177, 3) := by decide +kernel
theorem dX5_readsOrder_110 : decode cX5_readsOrder 110 = .ok (.ifCond .eq 43, 3) := by decide +kernel
theorem dX5_readsOrder_113 : decode cX5_readsOrder 113 = .ok (.aload_n 0, 1) := by decide +kernel
theorem dX5_readsOrder_114 : decode cX5_readsOrder 114 = .ok (.bipush 61, 2) := by decide +kernel
theorem dX5_readsOrder_116 : decode cX5_readsOrder 116 = .ok (.invokevirtual 174, 3) := by decide +kernel
theorem dX5_readsOrder_119 : decode cX5_readsOrder 119 = .ok (.ifCond .eq 34, 3) := by decide +kernel
theorem dX5_readsOrder_122 : decode cX5_readsOrder 122 = .ok (.aload_n 0, 1) := by decide +kernel
theorem dX5_readsOrder_123 : decode cX5_readsOrder 123 = .ok (.iconst 1, 1) := by decide +kernel
theorem dX5_readsOrder_124 : decode cX5_readsOrder 124 = .ok (.iconst 2, 1) := by decide +kernel
theorem dX5_readsOrder_125 : decode cX5_readsOrder 125 = .ok (.invokevirtual 177, 3) := by decide +kernel
theorem dX5_readsOrder_128 : decode cX5_readsOrder 128 = .ok (.ifCond .eq 25, 3) := by decide +kernel
theorem dX5_readsOrder_131 : decode cX5_readsOrder 131 = .ok (.aload_n 0, 1) := by decide +kernel
theorem dX5_readsOrder_132 : decode cX5_readsOrder 132 = .ok (.bipush 44, 2) := by decide +kernel
theorem dX5_readsOrder_134 : decode cX5_readsOrder 134 = .ok (.invokevirtual 174, 3) := by decide +kernel
theorem dX5_readsOrder_137 : decode cX5_readsOrder 137 = .ok (.ifCond .eq 16, 3) := by decide +kernel
theorem dX5_readsOrder_140 : decode cX5_readsOrder 140 = .ok (.aload_n 0, 1) := by decide +kernel
theorem dX5_readsOrder_141 : decode cX5_readsOrder 141 = .ok (.iconst 2, 1) := by decide +kernel
theorem dX5_readsOrder_142 : decode cX5_readsOrder 142 = .ok (.iconst 2, 1) := by decide +kernel
theorem dX5_readsOrder_143 : decode cX5_readsOrder 143 = .ok (.invokevirtual 177, 3) := by decide +kernel
theorem dX5_readsOrder_146 : decode cX5_readsOrder 146 = .ok (.ifCond .eq 7, 3) := by decide +kernel
theorem dX5_readsOrder_149 : decode cX5_readsOrder 149 = .ok (.iconst 1, 1) := by decide +kernel
theorem dX5_readsOrder_150 : decode cX5_readsOrder 150 = .ok (.goto 4, 3) := by decide +kernel
theorem dX5_readsOrder_153 : decode cX5_readsOrder 153 = .ok (.iconst 0, 1) := by decide +kernel
theorem dX5_readsOrder_154 : decode cX5_readsOrder 154 = .ok (.ireturn, 1) := by decide +kernel
theorem dX5_readsOrder_155 : decode cX5_readsOrder 155 = .ok (.aload_n 0, 1) := by decide +kernel
theorem dX5_readsOrder_156 : decode cX5_readsOrder 156 = .ok (.bipush 109, 2) := by decide +kernel
theorem dX5_readsOrder_158 : decode cX5_readsOrder 158 = .ok (.invokevirtual 174, 3) := by decide +kernel
theorem dX5_readsOrder_161 : decode cX5_readsOrder 161 = .ok (.ifCond .eq 16, 3) := by decide +kernel
theorem dX5_readsOrder_164 : decode cX5_readsOrder 164 = .ok (.aload_n 0, 1) := by decide +kernel
theorem dX5_readsOrder_165 : decode cX5_readsOrder 165 = .ok (.iconst 0, 1) := by decide +kernel
theorem dX5_readsOrder_166 : decode cX5_readsOrder 166 = .ok (.iconst 1, 1) := by decide +kernel
theorem dX5_readsOrder_167 : decode cX5_readsOrder 167 = .ok (.invokevirtual 177, 3) := by decide +kernel
theorem dX5_readsOrder_170 : decode cX5_readsOrder 170 = .ok (.ifCond .eq 7, 3) := by decide +kernel
theorem dX5_readsOrder_173 : decode cX5_readsOrder 173 = .ok (.iconst 1, 1) := by decide +kernel
theorem dX5_readsOrder_174 : decode cX5_readsOrder 174 = .ok (.goto 4, 3) := by decide +kernel
theorem dX5_readsOrder_177 : decode cX5_readsOrder 177 = .ok (.iconst 0, 1) := by decide +kernel
theorem dX5_readsOrder_178 : decode cX5_readsOrder 178 = .ok (.ireturn, 1) := by decide +kernel
theorem dX5_fault_0 : decode cX5_fault 0 = .ok (.aload_n 0, 1) := by decide +kernel
theorem dX5_fault_1 : decode cX5_fault 1 = .ok (.iconst 0, 1) := by decide +kernel
theorem dX5_fault_2 : decode cX5_fault 2 = .ok (.putfield 165, 3) := by decide +kernel
theorem dX5_fault_5 : decode cX5_fault 5 = .ok (.iconst 1, 1) := by decide +kernel
theorem dX5_fault_6 : decode cX5_fault 6 = .ok (.istore_n 1, 1) := by decide +kernel
theorem dX5_fault_7 : decode cX5_fault 7 = .ok (.iload_n 1, 1) := by decide +kernel
theorem dX5_fault_8 : decode cX5_fault 8 = .ok (.ifCond .eq 25, 3) := by decide +kernel
theorem dX5_fault_11 : decode cX5_fault 11 = .ok (.aload_n 0, 1) := by decide +kernel
theorem dX5_fault_12 : decode cX5_fault 12 = .ok (.invokevirtual 180, 3) := by decide +kernel
theorem dX5_fault_15 : decode cX5_fault 15 = .ok (.ifCond .ne 8, 3) := by decide +kernel
theorem dX5_fault_18 : decode cX5_fault 18 = .ok (.aload_n 0, 1) := by decide +kernel
theorem dX5_fault_19 : decode cX5_fault 19 = .ok (.getfield 165, 3) := by decide +kernel
theorem dX5_fault_22 : decode cX5_fault 22 = .ok (.ireturn, 1) := by decide +kernel
theorem dX5_fault_23 : decode cX5_fault 23 = .ok (.aload_n 0, 1) := by decide +kernel
theorem dX5_fault_24 : decode cX5_fault 24 = .ok (.bipush 59, 2) := by decide +kernel
theorem dX5_fault_26 : decode cX5_fault 26 = .ok (.invokevirtual 174, 3) := by decide +kernel
theorem dX5_fault_29 : decode cX5_fault 29 = .ok (.istore_n 1, 1) := by decide +kernel
theorem dX5_fault_30 : decode cX5_fault 30 = .ok (.goto (-23), 3) := by decide +kernel
theorem dX5_fault_33 : decode cX5_fault 33 = .ok (.aload_n 0, 1) := by decide +kernel
theorem dX5_fault_34 : decode cX5_fault 34 = .ok (.getfield 165, 3) := by decide +kernel
theorem dX5_fault_37 : decode cX5_fault 37 = .ok (.aload_n 0, 1) := by decide +kernel
theorem dX5_fault_38 : decode cX5_fault 38 = .ok (.getfield 136, 3) := by decide +kernel
theorem dX5_fault_41 : decode cX5_fault 41 = .ok (.if_icmp .ne 8, 3) := by decide +kernel
theorem dX5_fault_44 : decode cX5_fault 44 = .ok (.bipush (-6), 2) := by decide +kernel
theorem dX5_fault_46 : decode cX5_fault 46 = .ok (.goto 7, 3) := by decide +kernel
theorem dX5_fault_49 : decode cX5_fault 49 = .ok (.aload_n 0, 1) := by decide +kernel
theorem dX5_fault_50 : decode cX5_fault 50 = .ok (.getfield 165, 3) := by decide +kernel
theorem dX5_fault_53 : decode cX5_fault 53 = .ok (.ireturn, 1) := by decide +kernel
theorem dX5_carries_0 : decode cX5_carries 0 = .ok (.aload_n 0, 1) := by decide +kernel
theorem dX5_carries_1 : decode cX5_carries 1 = .ok (.getfield 171, 3) := by decide +kernel
theorem dX5_carries_4 : decode cX5_carries 4 = .ok (.bipush 102, 2) := by decide +kernel
theorem dX5_carries_6 : decode cX5_carries 6 = .ok (.if_icmp .ne 64, 3) := by decide +kernel
theorem dX5_carries_9 : decode cX5_carries 9 = .ok (.iconst 0, 1) := by decide +kernel
theorem dX5_carries_10 : decode cX5_carries 10 = .ok (.istore_n 1, 1) := by decide +kernel
theorem dX5_carries_11 : decode cX5_carries 11 = .ok (.iload_n 1, 1) := by decide +kernel
theorem dX5_carries_12 : decode cX5_carries 12 = .ok (.aload_n 0, 1) := by decide +kernel
theorem dX5_carries_13 : decode cX5_carries 13 = .ok (.getfield 28, 3) := by decide +kernel
theorem dX5_carries_16 : decode cX5_carries 16 = .ok (.iconst 1, 1) := by decide +kernel
theorem dX5_carries_17 : decode cX5_carries 17 = .ok (.iaload, 1) := by decide +kernel
theorem dX5_carries_18 : decode cX5_carries 18 = .ok (.if_icmp .ge 32, 3) := by decide +kernel
theorem dX5_carries_21 : decode cX5_carries 21 = .ok (.aload_n 0, 1) := by decide +kernel
theorem dX5_carries_22 : decode cX5_carries 22 = .ok (.getfield 7, 3) := by decide +kernel
theorem dX5_carries_25 : decode cX5_carries 25 = .ok (.iconst 5, 1) := by decide +kernel
theorem dX5_carries_26 : decode cX5_carries 26 = .ok (.iaload, 1) := by decide +kernel
theorem dX5_carries_27 : decode cX5_carries 27 = .ok (.sipush 400, 3) := by decide +kernel
theorem dX5_carries_30 : decode cX5_carries 30 = .ok (.if_icmp .ge 20, 3) := by decide +kernel
theorem dX5_carries_33 : decode cX5_carries 33 = .ok (.aload_n 0, 1) := by decide +kernel
theorem dX5_carries_34 : decode cX5_carries 34 = .ok (.aload_n 0, 1) := by decide +kernel
theorem dX5_carries_35 : decode cX5_carries 35 = .ok (.getfield 28, 3) := by decide +kernel
theorem dX5_carries_38 : decode cX5_carries 38 = .ok (.iconst 0, 1) := by decide +kernel
theorem dX5_carries_39 : decode cX5_carries 39 = .ok (.iaload, 1) := by decide +kernel
theorem dX5_carries_40 : decode cX5_carries 40 = .ok (.invokevirtual 117, 3) := by decide +kernel
theorem dX5_carries_43 : decode cX5_carries 43 = .ok (.istore_n 2, 1) := by decide +kernel
theorem dX5_carries_44 : decode cX5_carries 44 = .ok (.iinc 1 1, 3) := by decide +kernel
theorem dX5_carries_47 : decode cX5_carries 47 = .ok (.goto (-36), 3) := by decide +kernel
theorem dX5_carries_50 : decode cX5_carries 50 = .ok (.iload_n 1, 1) := by decide +kernel
theorem dX5_carries_51 : decode cX5_carries 51 = .ok (.aload_n 0, 1) := by decide +kernel
theorem dX5_carries_52 : decode cX5_carries 52 = .ok (.getfield 28, 3) := by decide +kernel
theorem dX5_carries_55 : decode cX5_carries 55 = .ok (.iconst 1, 1) := by decide +kernel
theorem dX5_carries_56 : decode cX5_carries 56 = .ok (.iaload, 1) := by decide +kernel
theorem dX5_carries_57 : decode cX5_carries 57 = .ok (.if_icmp .ge 11, 3) := by decide +kernel
theorem dX5_carries_60 : decode cX5_carries 60 = .ok (.iload_n 1, 1) := by decide +kernel
theorem dX5_carries_61 : decode cX5_carries 61 = .ok (.sipush 1000, 3) := by decide +kernel
theorem dX5_carries_64 : decode cX5_carries 64 = .ok (.isub, 1) := by decide +kernel
theorem dX5_carries_65 : decode cX5_carries 65 = .ok (.goto 4, 3) := by decide +kernel
theorem dX5_carries_68 : decode cX5_carries 68 = .ok (.iload_n 1, 1) := by decide +kernel
theorem dX5_carries_69 : decode cX5_carries 69 = .ok (.ireturn, 1) := by decide +kernel
theorem dX5_carries_70 : decode cX5_carries 70 = .ok (.aload_n 0, 1) := by decide +kernel
theorem dX5_carries_71 : decode cX5_carries 71 = .ok (.getfield 171, 3) := by decide +kernel
theorem dX5_carries_74 : decode cX5_carries 74 = .ok (.bipush 116, 2) := by decide +kernel
theorem dX5_carries_76 : decode cX5_carries 76 = .ok (.if_icmp .ne 71, 3) := by decide +kernel
theorem dX5_carries_79 : decode cX5_carries 79 = .ok (.aload_n 0, 1) := by decide +kernel
theorem dX5_carries_80 : decode cX5_carries 80 = .ok (.getfield 28, 3) := by decide +kernel
theorem dX5_carries_83 : decode cX5_carries 83 = .ok (.iconst 0, 1) := by decide +kernel
theorem dX5_carries_84 : decode cX5_carries 84 = .ok (.iaload, 1) := by decide +kernel
theorem dX5_carries_85 : decode cX5_carries 85 = .ok (.invokestatic 120, 3) := by decide +kernel
theorem dX5_carries_88 : decode cX5_carries 88 = .ok (.ifCond .eq 26, 3) := by decide +kernel
theorem dX5_carries_91 : decode cX5_carries 91 = .ok (.aload_n 0, 1) := by decide +kernel
theorem dX5_carries_92 : decode cX5_carries 92 = .ok (.getfield 7, 3) := by decide +kernel
theorem dX5_carries_95 : decode cX5_carries 95 = .ok (.iconst 4, 1) := by decide +kernel
theorem dX5_carries_96 : decode cX5_carries 96 = .ok (.iaload, 1) := by decide +kernel
theorem dX5_carries_97 : decode cX5_carries 97 = .ok (.aload_n 0, 1) := by decide +kernel
theorem dX5_carries_98 : decode cX5_carries 98 = .ok (.getfield 28, 3) := by decide +kernel
theorem dX5_carries_101 : decode cX5_carries 101 = .ok (.iconst 0, 1) := by decide +kernel
theorem dX5_carries_102 : decode cX5_carries 102 = .ok (.iaload, 1) := by decide +kernel
theorem dX5_carries_103 : decode cX5_carries 103 = .ok (.iadd, 1) := by decide +kernel
theorem dX5_carries_104 : decode cX5_carries 104 = .ok (.sipush 9999, 3) := by decide +kernel
theorem dX5_carries_107 : decode cX5_carries 107 = .ok (.if_icmp .gt 7, 3) := by decide +kernel
theorem dX5_carries_110 : decode cX5_carries 110 = .ok (.iconst 1, 1) := by decide +kernel
theorem dX5_carries_111 : decode cX5_carries 111 = .ok (.goto 4, 3) := by decide +kernel
theorem dX5_carries_114 : decode cX5_carries 114 = .ok (.iconst 0, 1) := by decide +kernel
theorem dX5_carries_115 : decode cX5_carries 115 = .ok (.istore_n 1, 1) := by decide +kernel
theorem dX5_carries_116 : decode cX5_carries 116 = .ok (.iload_n 1, 1) := by decide +kernel
theorem dX5_carries_117 : decode cX5_carries 117 = .ok (.ifCond .eq 16, 3) := by decide +kernel
theorem dX5_carries_120 : decode cX5_carries 120 = .ok (.aload_n 0, 1) := by decide +kernel
theorem dX5_carries_121 : decode cX5_carries 121 = .ok (.aload_n 0, 1) := by decide +kernel
theorem dX5_carries_122 : decode cX5_carries 122 = .ok (.getfield 28, 3) := by decide +kernel
theorem dX5_carries_125 : decode cX5_carries 125 = .ok (.iconst 0, 1) := by decide +kernel
theorem dX5_carries_126 : decode cX5_carries 126 = .ok (.iaload, 1) := by decide +kernel
theorem dX5_carries_127 : decode cX5_carries 127 = .ok (.invokevirtual 123, 3) := by decide +kernel
theorem dX5_carries_130 : decode cX5_carries 130 = .ok (.goto 4, 3) := by decide +kernel
theorem dX5_carries_133 : decode cX5_carries 133 = .ok (.iconst 0, 1) := by decide +kernel
theorem dX5_carries_134 : decode cX5_carries 134 = .ok (.istore_n 2, 1) := by decide +kernel
theorem dX5_carries_135 : decode cX5_carries 135 = .ok (.iload_n 1, 1) := by decide +kernel
theorem dX5_carries_136 : decode cX5_carries 136 = .ok (.ifCond .eq 7, 3) := by decide +kernel
theorem dX5_carries_139 : decode cX5_carries 139 = .ok (.iconst 1, 1) := by decide +kernel
theorem dX5_carries_140 : decode cX5_carries 140 = .ok (.goto 6, 3) := by decide +kernel
theorem dX5_carries_143 : decode cX5_carries 143 = .ok (.sipush (-1000), 3) := by decide +kernel
theorem dX5_carries_146 : decode cX5_carries 146 = .ok (.ireturn, 1) := by decide +kernel
theorem dX5_carries_147 : decode cX5_carries 147 = .ok (.aload_n 0, 1) := by decide +kernel
theorem dX5_carries_148 : decode cX5_carries 148 = .ok (.getfield 28, 3) := by decide +kernel
theorem dX5_carries_151 : decode cX5_carries 151 = .ok (.iconst 0, 1) := by decide +kernel
theorem dX5_carries_152 : decode cX5_carries 152 = .ok (.iaload, 1) := by decide +kernel
theorem dX5_carries_153 : decode cX5_carries 153 = .ok (.invokestatic 106, 3) := by decide +kernel
theorem dX5_carries_156 : decode cX5_carries 156 = .ok (.ifCond .ne 7, 3) := by decide +kernel
theorem dX5_carries_159 : decode cX5_carries 159 = .ok (.sipush (-1000), 3) := by decide +kernel
theorem dX5_carries_162 : decode cX5_carries 162 = .ok (.ireturn, 1) := by decide +kernel
theorem dX5_carries_163 : decode cX5_carries 163 = .ok (.aload_n 0, 1) := by decide +kernel
theorem dX5_carries_164 : decode cX5_carries 164 = .ok (.getfield 171, 3) := by decide +kernel
theorem dX5_carries_167 : decode cX5_carries 167 = .ok (.bipush 109, 2) := by decide +kernel
theorem dX5_carries_169 : decode cX5_carries 169 = .ok (.if_icmp .ne 29, 3) := by decide +kernel
theorem dX5_carries_172 : decode cX5_carries 172 = .ok (.aload_n 0, 1) := by decide +kernel
theorem dX5_carries_173 : decode cX5_carries 173 = .ok (.aload_n 0, 1) := by decide +kernel
theorem dX5_carries_174 : decode cX5_carries 174 = .ok (.getfield 28, 3) := by decide +kernel
theorem dX5_carries_177 : decode cX5_carries 177 = .ok (.iconst 0, 1) := by decide +kernel
theorem dX5_carries_178 : decode cX5_carries 178 = .ok (.iaload, 1) := by decide +kernel
theorem dX5_carries_179 : decode cX5_carries 179 = .ok (.iconst 3, 1) := by decide +kernel
theorem dX5_carries_180 : decode cX5_carries 180 = .ok (.iconst 1, 1) := by decide +kernel
theorem dX5_carries_181 : decode cX5_carries 181 = .ok (.aload_n 0, 1) := by decide +kernel
theorem dX5_carries_182 : decode cX5_carries 182 = .ok (.aload_n 0, 1) := by decide +kernel
theorem dX5_carries_183 : decode cX5_carries 183 = .ok (.getfield 28, 3) := by decide +kernel
theorem dX5_carries_186 : decode cX5_carries 186 = .ok (.iconst 0, 1) := by decide +kernel
theorem dX5_carries_187 : decode cX5_carries 187 = .ok (.iaload, 1) := by decide +kernel
theorem dX5_carries_188 : decode cX5_carries 188 = .ok (.iconst 3, 1) := by decide +kernel
theorem dX5_carries_189 : decode cX5_carries 189 = .ok (.invokevirtual 53, 3) := by decide +kernel
theorem dX5_carries_192 : decode cX5_carries 192 = .ok (.isub, 1) := by decide +kernel
theorem dX5_carries_193 : decode cX5_carries 193 = .ok (.invokevirtual 31, 3) := by decide +kernel
theorem dX5_carries_196 : decode cX5_carries 196 = .ok (.iconst 1, 1) := by decide +kernel
theorem dX5_carries_197 : decode cX5_carries 197 = .ok (.ireturn, 1) := by decide +kernel
theorem dX5_carries_198 : decode cX5_carries 198 = .ok (.aload_n 0, 1) := by decide +kernel
theorem dX5_carries_199 : decode cX5_carries 199 = .ok (.getfield 28, 3) := by decide +kernel
theorem dX5_carries_202 : decode cX5_carries 202 = .ok (.iconst 1, 1) := by decide +kernel
theorem dX5_carries_203 : decode cX5_carries 203 = .ok (.iaload, 1) := by decide +kernel
theorem dX5_carries_204 : decode cX5_carries 204 = .ok (.aload_n 0, 1) := by decide +kernel
theorem dX5_carries_205 : decode cX5_carries 205 = .ok (.getfield 28, 3) := by decide +kernel
theorem dX5_carries_208 : decode cX5_carries 208 = .ok (.iconst 2, 1) := by decide +kernel
theorem dX5_carries_209 : decode cX5_carries 209 = .ok (.iaload, 1) := by decide +kernel
theorem dX5_carries_210 : decode cX5_carries 210 = .ok (.invokestatic 110, 3) := by decide +kernel
theorem dX5_carries_213 : decode cX5_carries 213 = .ok (.istore_n 1, 1) := by decide +kernel
theorem dX5_carries_214 : decode cX5_carries 214 = .ok (.iload_n 1, 1) := by decide +kernel
theorem dX5_carries_215 : decode cX5_carries 215 = .ok (.ifCond .eq 28, 3) := by decide +kernel
theorem dX5_carries_218 : decode cX5_carries 218 = .ok (.aload_n 0, 1) := by decide +kernel
theorem dX5_carries_219 : decode cX5_carries 219 = .ok (.aload_n 0, 1) := by decide +kernel
theorem dX5_carries_220 : decode cX5_carries 220 = .ok (.getfield 28, 3) := by decide +kernel
theorem dX5_carries_223 : decode cX5_carries 223 = .ok (.iconst 0, 1) := by decide +kernel
theorem dX5_carries_224 : decode cX5_carries 224 = .ok (.iaload, 1) := by decide +kernel
theorem dX5_carries_225 : decode cX5_carries 225 = .ok (.aload_n 0, 1) := by decide +kernel
theorem dX5_carries_226 : decode cX5_carries 226 = .ok (.getfield 28, 3) := by decide +kernel
theorem dX5_carries_229 : decode cX5_carries 229 = .ok (.iconst 1, 1) := by decide +kernel
theorem dX5_carries_230 : decode cX5_carries 230 = .ok (.iaload, 1) := by decide +kernel
theorem dX5_carries_231 : decode cX5_carries 231 = .ok (.aload_n 0, 1) := by decide +kernel
theorem dX5_carries_232 : decode cX5_carries 232 = .ok (.getfield 28, 3) := by decide +kernel
theorem dX5_carries_235 : decode cX5_carries 235 = .ok (.iconst 2, 1) := by decide +kernel
theorem dX5_carries_236 : decode cX5_carries 236 = .ok (.iaload, 1) := by decide +kernel
theorem dX5_carries_237 : decode cX5_carries 237 = .ok (.invokevirtual 113, 3) := by decide +kernel
theorem dX5_carries_240 : decode cX5_carries 240 = .ok (.goto 4, 3) := by decide +kernel
theorem dX5_carries_243 : decode cX5_carries 243 = .ok (.iconst 0, 1) := by decide +kernel
theorem dX5_carries_244 : decode cX5_carries 244 = .ok (.istore_n 2, 1) := by decide +kernel
theorem dX5_carries_245 : decode cX5_carries 245 = .ok (.iload_n 1, 1) := by decide +kernel
theorem dX5_carries_246 : decode cX5_carries 246 = .ok (.ifCond .eq 7, 3) := by decide +kernel
theorem dX5_carries_249 : decode cX5_carries 249 = .ok (.iconst 1, 1) := by decide +kernel
theorem dX5_carries_250 : decode cX5_carries 250 = .ok (.goto 6, 3) := by decide +kernel
theorem dX5_carries_253 : decode cX5_carries 253 = .ok (.sipush (-1000), 3) := by decide +kernel
theorem dX5_carries_256 : decode cX5_carries 256 = .ok (.ireturn, 1) := by decide +kernel
theorem dX5_carryOut_0 : decode cX5_carryOut 0 = .ok (.aload_n 0, 1) := by decide +kernel
theorem dX5_carryOut_1 : decode cX5_carryOut 1 = .ok (.invokevirtual 184, 3) := by decide +kernel
theorem dX5_carryOut_4 : decode cX5_carryOut 4 = .ok (.bipush (-6), 2) := by decide +kernel
theorem dX5_carryOut_6 : decode cX5_carryOut 6 = .ok (.if_icmp .eq 6, 3) := by decide +kernel
theorem dX5_carryOut_9 : decode cX5_carryOut 9 = .ok (.bipush (-3), 2) := by decide +kernel
theorem dX5_carryOut_11 : decode cX5_carryOut 11 = .ok (.ireturn, 1) := by decide +kernel
theorem dX5_carryOut_12 : decode cX5_carryOut 12 = .ok (.aload_n 0, 1) := by decide +kernel
theorem dX5_carryOut_13 : decode cX5_carryOut 13 = .ok (.invokevirtual 103, 3) := by decide +kernel
theorem dX5_carryOut_16 : decode cX5_carryOut 16 = .ok (.aload_n 0, 1) := by decide +kernel
theorem dX5_carryOut_17 : decode cX5_carryOut 17 = .ok (.iconst 0, 1) := by decide +kernel
theorem dX5_carryOut_18 : decode cX5_carryOut 18 = .ok (.putfield 165, 3) := by decide +kernel
theorem dX5_carryOut_21 : decode cX5_carryOut 21 = .ok (.iconst 0, 1) := by decide +kernel
theorem dX5_carryOut_22 : decode cX5_carryOut 22 = .ok (.istore_n 1, 1) := by decide +kernel
theorem dX5_carryOut_23 : decode cX5_carryOut 23 = .ok (.iconst 1, 1) := by decide +kernel
theorem dX5_carryOut_24 : decode cX5_carryOut 24 = .ok (.istore_n 2, 1) := by decide +kernel
theorem dX5_carryOut_25 : decode cX5_carryOut 25 = .ok (.iload_n 2, 1) := by decide +kernel
theorem dX5_carryOut_26 : decode cX5_carryOut 26 = .ok (.ifCond .eq 56, 3) := by decide +kernel
theorem dX5_carryOut_29 : decode cX5_carryOut 29 = .ok (.aload_n 0, 1) := by decide +kernel
theorem dX5_carryOut_30 : decode cX5_carryOut 30 = .ok (.invokevirtual 180, 3) := by decide +kernel
theorem dX5_carryOut_33 : decode cX5_carryOut 33 = .ok (.istore_n 3, 1) := by decide +kernel
theorem dX5_carryOut_34 : decode cX5_carryOut 34 = .ok (.aload_n 0, 1) := by decide +kernel
theorem dX5_carryOut_35 : decode cX5_carryOut 35 = .ok (.invokevirtual 187, 3) := by decide +kernel
theorem dX5_carryOut_38 : decode cX5_carryOut 38 = .ok (.istore 4, 2) := by decide +kernel
theorem dX5_carryOut_40 : decode cX5_carryOut 40 = .ok (.iload_n 1, 1) := by decide +kernel
theorem dX5_carryOut_41 : decode cX5_carryOut 41 = .ok (.iload 4, 2) := by decide +kernel
theorem dX5_carryOut_43 : decode cX5_carryOut 43 = .ok (.ifCond .ge 12, 3) := by decide +kernel
theorem dX5_carryOut_46 : decode cX5_carryOut 46 = .ok (.iload 4, 2) := by decide +kernel
theorem dX5_carryOut_48 : decode cX5_carryOut 48 = .ok (.sipush 1000, 3) := by decide +kernel
theorem dX5_carryOut_51 : decode cX5_carryOut 51 = .ok (.iadd, 1) := by decide +kernel
theorem dX5_carryOut_52 : decode cX5_carryOut 52 = .ok (.goto 5, 3) := by decide +kernel
theorem dX5_carryOut_55 : decode cX5_carryOut 55 = .ok (.iload 4, 2) := by decide +kernel
theorem dX5_carryOut_57 : decode cX5_carryOut 57 = .ok (.iadd, 1) := by decide +kernel
theorem dX5_carryOut_58 : decode cX5_carryOut 58 = .ok (.istore_n 1, 1) := by decide +kernel
theorem dX5_carryOut_59 : decode cX5_carryOut 59 = .ok (.iload 4, 2) := by decide +kernel
theorem dX5_carryOut_61 : decode cX5_carryOut 61 = .ok (.ifCond .lt 16, 3) := by decide +kernel
theorem dX5_carryOut_64 : decode cX5_carryOut 64 = .ok (.aload_n 0, 1) := by decide +kernel
theorem dX5_carryOut_65 : decode cX5_carryOut 65 = .ok (.bipush 59, 2) := by decide +kernel
theorem dX5_carryOut_67 : decode cX5_carryOut 67 = .ok (.invokevirtual 174, 3) := by decide +kernel
theorem dX5_carryOut_70 : decode cX5_carryOut 70 = .ok (.ifCond .eq 7, 3) := by decide +kernel
theorem dX5_carryOut_73 : decode cX5_carryOut 73 = .ok (.iconst 1, 1) := by decide +kernel
theorem dX5_carryOut_74 : decode cX5_carryOut 74 = .ok (.goto 4, 3) := by decide +kernel
theorem dX5_carryOut_77 : decode cX5_carryOut 77 = .ok (.iconst 0, 1) := by decide +kernel
theorem dX5_carryOut_78 : decode cX5_carryOut 78 = .ok (.istore_n 2, 1) := by decide +kernel
theorem dX5_carryOut_79 : decode cX5_carryOut 79 = .ok (.goto (-54), 3) := by decide +kernel
theorem dX5_carryOut_82 : decode cX5_carryOut 82 = .ok (.aload_n 0, 1) := by decide +kernel
theorem dX5_carryOut_83 : decode cX5_carryOut 83 = .ok (.iconst 0, 1) := by decide +kernel
theorem dX5_carryOut_84 : decode cX5_carryOut 84 = .ok (.putfield 136, 3) := by decide +kernel
theorem dX5_carryOut_87 : decode cX5_carryOut 87 = .ok (.iload_n 1, 1) := by decide +kernel
theorem dX5_carryOut_88 : decode cX5_carryOut 88 = .ok (.ireturn, 1) := by decide +kernel
theorem dX5_undo_0 : decode cX5_undo 0 = .ok (.aload_n 0, 1) := by decide +kernel
theorem dX5_undo_1 : decode cX5_undo 1 = .ok (.getfield 35, 3) := by decide +kernel
theorem dX5_undo_4 : decode cX5_undo 4 = .ok (.ifCond .ne 6, 3) := by decide +kernel
theorem dX5_undo_7 : decode cX5_undo 7 = .ok (.bipush (-5), 2) := by decide +kernel
theorem dX5_undo_9 : decode cX5_undo 9 = .ok (.ireturn, 1) := by decide +kernel
theorem dX5_undo_10 : decode cX5_undo 10 = .ok (.aload_n 0, 1) := by decide +kernel
theorem dX5_undo_11 : decode cX5_undo 11 = .ok (.dup, 1) := by decide +kernel
theorem dX5_undo_12 : decode cX5_undo 12 = .ok (.getfield 35, 3) := by decide +kernel
theorem dX5_undo_15 : decode cX5_undo 15 = .ok (.iconst 1, 1) := by decide +kernel
theorem dX5_undo_16 : decode cX5_undo 16 = .ok (.isub, 1) := by decide +kernel
theorem dX5_undo_17 : decode cX5_undo 17 = .ok (.putfield 35, 3) := by decide +kernel
theorem dX5_undo_20 : decode cX5_undo 20 = .ok (.iconst 0, 1) := by decide +kernel
theorem dX5_undo_21 : decode cX5_undo 21 = .ok (.istore_n 1, 1) := by decide +kernel
theorem dX5_undo_22 : decode cX5_undo 22 = .ok (.iload_n 1, 1) := by decide +kernel
theorem dX5_undo_23 : decode cX5_undo 23 = .ok (.sipush 1640, 3) := by decide +kernel
theorem dX5_undo_26 : decode cX5_undo 26 = .ok (.if_icmp .ge 30, 3) := by decide +kernel
theorem dX5_undo_29 : decode cX5_undo 29 = .ok (.aload_n 0, 1) := by decide +kernel
theorem dX5_undo_30 : decode cX5_undo 30 = .ok (.getfield 7, 3) := by decide +kernel
theorem dX5_undo_33 : decode cX5_undo 33 = .ok (.iload_n 1, 1) := by decide +kernel
theorem dX5_undo_34 : decode cX5_undo 34 = .ok (.aload_n 0, 1) := by decide +kernel
theorem dX5_undo_35 : decode cX5_undo 35 = .ok (.getfield 16, 3) := by decide +kernel
theorem dX5_undo_38 : decode cX5_undo 38 = .ok (.sipush 1640, 3) := by decide +kernel
theorem dX5_undo_41 : decode cX5_undo 41 = .ok (.aload_n 0, 1) := by decide +kernel
theorem dX5_undo_42 : decode cX5_undo 42 = .ok (.getfield 35, 3) := by decide +kernel
theorem dX5_undo_45 : decode cX5_undo 45 = .ok (.imul, 1) := by decide +kernel
theorem dX5_undo_46 : decode cX5_undo 46 = .ok (.iload_n 1, 1) := by decide +kernel
theorem dX5_undo_47 : decode cX5_undo 47 = .ok (.iadd, 1) := by decide +kernel
theorem dX5_undo_48 : decode cX5_undo 48 = .ok (.iaload, 1) := by decide +kernel
theorem dX5_undo_49 : decode cX5_undo 49 = .ok (.iastore, 1) := by decide +kernel
theorem dX5_undo_50 : decode cX5_undo 50 = .ok (.iinc 1 1, 3) := by decide +kernel
theorem dX5_undo_53 : decode cX5_undo 53 = .ok (.goto (-31), 3) := by decide +kernel
theorem dX5_undo_56 : decode cX5_undo 56 = .ok (.aload_n 0, 1) := by decide +kernel
theorem dX5_undo_57 : decode cX5_undo 57 = .ok (.getfield 35, 3) := by decide +kernel
theorem dX5_undo_60 : decode cX5_undo 60 = .ok (.ireturn, 1) := by decide +kernel
theorem dX5_isSlot_0 : decode cX5_isSlot 0 = .ok (.iload_n 0, 1) := by decide +kernel
theorem dX5_isSlot_1 : decode cX5_isSlot 1 = .ok (.ifCond .eq 8, 3) := by decide +kernel
theorem dX5_isSlot_4 : decode cX5_isSlot 4 = .ok (.iload_n 0, 1) := by decide +kernel
theorem dX5_isSlot_5 : decode cX5_isSlot 5 = .ok (.iconst 1, 1) := by decide +kernel
theorem dX5_isSlot_6 : decode cX5_isSlot 6 = .ok (.if_icmp .ne 7, 3) := by decide +kernel
theorem dX5_isSlot_9 : decode cX5_isSlot 9 = .ok (.iconst 1, 1) := by decide +kernel
theorem dX5_isSlot_10 : decode cX5_isSlot 10 = .ok (.goto 4, 3) := by decide +kernel
theorem dX5_isSlot_13 : decode cX5_isSlot 13 = .ok (.iconst 0, 1) := by decide +kernel
theorem dX5_isSlot_14 : decode cX5_isSlot 14 = .ok (.ireturn, 1) := by decide +kernel
theorem dX5_save_0 : decode cX5_save 0 = .ok (.iload_n 1, 1) := by decide +kernel
theorem dX5_save_1 : decode cX5_save 1 = .ok (.invokestatic 190, 3) := by decide +kernel
theorem dX5_save_4 : decode cX5_save 4 = .ok (.ifCond .ne 6, 3) := by decide +kernel
theorem dX5_save_7 : decode cX5_save 7 = .ok (.bipush (-2), 2) := by decide +kernel
theorem dX5_save_9 : decode cX5_save 9 = .ok (.ireturn, 1) := by decide +kernel
theorem dX5_save_10 : decode cX5_save 10 = .ok (.iconst 0, 1) := by decide +kernel
theorem dX5_save_11 : decode cX5_save 11 = .ok (.istore_n 2, 1) := by decide +kernel
theorem dX5_save_12 : decode cX5_save 12 = .ok (.iload_n 2, 1) := by decide +kernel
theorem dX5_save_13 : decode cX5_save 13 = .ok (.sipush 1640, 3) := by decide +kernel
theorem dX5_save_16 : decode cX5_save 16 = .ok (.if_icmp .ge 27, 3) := by decide +kernel
theorem dX5_save_19 : decode cX5_save 19 = .ok (.aload_n 0, 1) := by decide +kernel
theorem dX5_save_20 : decode cX5_save 20 = .ok (.getfield 19, 3) := by decide +kernel
theorem dX5_save_23 : decode cX5_save 23 = .ok (.sipush 1640, 3) := by decide +kernel
theorem dX5_save_26 : decode cX5_save 26 = .ok (.iload_n 1, 1) := by decide +kernel
theorem dX5_save_27 : decode cX5_save 27 = .ok (.imul, 1) := by decide +kernel
theorem dX5_save_28 : decode cX5_save 28 = .ok (.iload_n 2, 1) := by decide +kernel
theorem dX5_save_29 : decode cX5_save 29 = .ok (.iadd, 1) := by decide +kernel
theorem dX5_save_30 : decode cX5_save 30 = .ok (.aload_n 0, 1) := by decide +kernel
theorem dX5_save_31 : decode cX5_save 31 = .ok (.getfield 7, 3) := by decide +kernel
theorem dX5_save_34 : decode cX5_save 34 = .ok (.iload_n 2, 1) := by decide +kernel
theorem dX5_save_35 : decode cX5_save 35 = .ok (.iaload, 1) := by decide +kernel
theorem dX5_save_36 : decode cX5_save 36 = .ok (.iastore, 1) := by decide +kernel
theorem dX5_save_37 : decode cX5_save 37 = .ok (.iinc 2 1, 3) := by decide +kernel
theorem dX5_save_40 : decode cX5_save 40 = .ok (.goto (-28), 3) := by decide +kernel
theorem dX5_save_43 : decode cX5_save 43 = .ok (.aload_n 0, 1) := by decide +kernel
theorem dX5_save_44 : decode cX5_save 44 = .ok (.getfield 22, 3) := by decide +kernel
theorem dX5_save_47 : decode cX5_save 47 = .ok (.iload_n 1, 1) := by decide +kernel
theorem dX5_save_48 : decode cX5_save 48 = .ok (.iconst 1, 1) := by decide +kernel
theorem dX5_save_49 : decode cX5_save 49 = .ok (.iastore, 1) := by decide +kernel
theorem dX5_save_50 : decode cX5_save 50 = .ok (.aload_n 0, 1) := by decide +kernel
theorem dX5_save_51 : decode cX5_save 51 = .ok (.getfield 7, 3) := by decide +kernel
theorem dX5_save_54 : decode cX5_save 54 = .ok (.iconst 5, 1) := by decide +kernel
theorem dX5_save_55 : decode cX5_save 55 = .ok (.iaload, 1) := by decide +kernel
theorem dX5_save_56 : decode cX5_save 56 = .ok (.ireturn, 1) := by decide +kernel
theorem dX5_restore_0 : decode cX5_restore 0 = .ok (.iload_n 1, 1) := by decide +kernel
theorem dX5_restore_1 : decode cX5_restore 1 = .ok (.invokestatic 190, 3) := by decide +kernel
theorem dX5_restore_4 : decode cX5_restore 4 = .ok (.ifCond .ne 6, 3) := by decide +kernel
theorem dX5_restore_7 : decode cX5_restore 7 = .ok (.bipush (-2), 2) := by decide +kernel
theorem dX5_restore_9 : decode cX5_restore 9 = .ok (.ireturn, 1) := by decide +kernel
theorem dX5_restore_10 : decode cX5_restore 10 = .ok (.aload_n 0, 1) := by decide +kernel
theorem dX5_restore_11 : decode cX5_restore 11 = .ok (.getfield 22, 3) := by decide +kernel
theorem dX5_restore_14 : decode cX5_restore 14 = .ok (.iload_n 1, 1) := by decide +kernel
theorem dX5_restore_15 : decode cX5_restore 15 = .ok (.iaload, 1) := by decide +kernel
theorem dX5_restore_16 : decode cX5_restore 16 = .ok (.ifCond .ne 6, 3) := by decide +kernel
theorem dX5_restore_19 : decode cX5_restore 19 = .ok (.bipush (-5), 2) := by decide +kernel
theorem dX5_restore_21 : decode cX5_restore 21 = .ok (.ireturn, 1) := by decide +kernel
theorem dX5_restore_22 : decode cX5_restore 22 = .ok (.aload_n 0, 1) := by decide +kernel
theorem dX5_restore_23 : decode cX5_restore 23 = .ok (.invokevirtual 103, 3) := by decide +kernel
theorem dX5_restore_26 : decode cX5_restore 26 = .ok (.iconst 0, 1) := by decide +kernel
theorem dX5_restore_27 : decode cX5_restore 27 = .ok (.istore_n 2, 1) := by decide +kernel
theorem dX5_restore_28 : decode cX5_restore 28 = .ok (.iload_n 2, 1) := by decide +kernel
theorem dX5_restore_29 : decode cX5_restore 29 = .ok (.sipush 1640, 3) := by decide +kernel
theorem dX5_restore_32 : decode cX5_restore 32 = .ok (.if_icmp .ge 27, 3) := by decide +kernel
theorem dX5_restore_35 : decode cX5_restore 35 = .ok (.aload_n 0, 1) := by decide +kernel
theorem dX5_restore_36 : decode cX5_restore 36 = .ok (.getfield 7, 3) := by decide +kernel
theorem dX5_restore_39 : decode cX5_restore 39 = .ok (.iload_n 2, 1) := by decide +kernel
theorem dX5_restore_40 : decode cX5_restore 40 = .ok (.aload_n 0, 1) := by decide +kernel
theorem dX5_restore_41 : decode cX5_restore 41 = .ok (.getfield 19, 3) := by decide +kernel
theorem dX5_restore_44 : decode cX5_restore 44 = .ok (.sipush 1640, 3) := by decide +kernel
theorem dX5_restore_47 : decode cX5_restore 47 = .ok (.iload_n 1, 1) := by decide +kernel
theorem dX5_restore_48 : decode cX5_restore 48 = .ok (.imul, 1) := by decide +kernel
theorem dX5_restore_49 : decode cX5_restore 49 = .ok (.iload_n 2, 1) := by decide +kernel
theorem dX5_restore_50 : decode cX5_restore 50 = .ok (.iadd, 1) := by decide +kernel
theorem dX5_restore_51 : decode cX5_restore 51 = .ok (.iaload, 1) := by decide +kernel
theorem dX5_restore_52 : decode cX5_restore 52 = .ok (.iastore, 1) := by decide +kernel
theorem dX5_restore_53 : decode cX5_restore 53 = .ok (.iinc 2 1, 3) := by decide +kernel
theorem dX5_restore_56 : decode cX5_restore 56 = .ok (.goto (-28), 3) := by decide +kernel
theorem dX5_restore_59 : decode cX5_restore 59 = .ok (.aload_n 0, 1) := by decide +kernel
theorem dX5_restore_60 : decode cX5_restore 60 = .ok (.getfield 7, 3) := by decide +kernel
theorem dX5_restore_63 : decode cX5_restore 63 = .ok (.iconst 5, 1) := by decide +kernel
theorem dX5_restore_64 : decode cX5_restore 64 = .ok (.iaload, 1) := by decide +kernel
theorem dX5_restore_65 : decode cX5_restore 65 = .ok (.ireturn, 1) := by decide +kernel
theorem dL_law_0 : decode cL_law 0 = .ok (.new 7, 3) := by decide +kernel
theorem dL_law_3 : decode cL_law 3 = .ok (.dup, 1) := by decide +kernel
theorem dL_law_4 : decode cL_law 4 = .ok (.invokespecial 9, 3) := by decide +kernel
theorem dL_law_7 : decode cL_law 7 = .ok (.astore_n 1, 1) := by decide +kernel
theorem dL_law_8 : decode cL_law 8 = .ok (.new 10, 3) := by decide +kernel
theorem dL_law_11 : decode cL_law 11 = .ok (.dup, 1) := by decide +kernel
theorem dL_law_12 : decode cL_law 12 = .ok (.invokespecial 12, 3) := by decide +kernel
theorem dL_law_15 : decode cL_law 15 = .ok (.astore_n 2, 1) := by decide +kernel
theorem dL_law_16 : decode cL_law 16 = .ok (.iconst 0, 1) := by decide +kernel
theorem dL_law_17 : decode cL_law 17 = .ok (.istore_n 3, 1) := by decide +kernel
theorem dL_law_18 : decode cL_law 18 = .ok (.iload_n 3, 1) := by decide +kernel
theorem dL_law_19 : decode cL_law 19 = .ok (.aload_n 0, 1) := by decide +kernel
theorem dL_law_20 : decode cL_law 20 = .ok (.arraylength, 1) := by decide +kernel
theorem dL_law_21 : decode cL_law 21 = .ok (.iconst 4, 1) := by decide +kernel
theorem dL_law_22 : decode cL_law 22 = .ok (.isub, 1) := by decide +kernel
theorem dL_law_23 : decode cL_law 23 = .ok (.if_icmp .gt 668, 3) := by decide +kernel
theorem dL_law_26 : decode cL_law 26 = .ok (.aload_n 0, 1) := by decide +kernel
theorem dL_law_27 : decode cL_law 27 = .ok (.iload_n 3, 1) := by decide +kernel
theorem dL_law_28 : decode cL_law 28 = .ok (.iaload, 1) := by decide +kernel
theorem dL_law_29 : decode cL_law 29 = .ok (.bipush 31, 2) := by decide +kernel
theorem dL_law_31 : decode cL_law 31 = .ok (.iand, 1) := by decide +kernel
theorem dL_law_32 : decode cL_law 32 = .ok (.tableswitch 653 0 20 #[100, 133, 176, 199, 222, 245, 268, 301, 334, 357, 380, 403, 426, 459, 502, 555, 568, 581, 594, 607, 630], 100) := by decide +kernel
theorem dL_law_132 : decode cL_law 132 = .ok (.aload_n 1, 1) := by decide +kernel
theorem dL_law_133 : decode cL_law 133 = .ok (.aload_n 0, 1) := by decide +kernel
theorem dL_law_134 : decode cL_law 134 = .ok (.iload_n 3, 1) := by decide +kernel
theorem dL_law_135 : decode cL_law 135 = .ok (.iconst 1, 1) := by decide +kernel
theorem dL_law_136 : decode cL_law 136 = .ok (.iadd, 1) := by decide +kernel
theorem dL_law_137 : decode cL_law 137 = .ok (.iaload, 1) := by decide +kernel
theorem dL_law_138 : decode cL_law 138 = .ok (.aload_n 0, 1) := by decide +kernel
theorem dL_law_139 : decode cL_law 139 = .ok (.iload_n 3, 1) := by decide +kernel
theorem dL_law_140 : decode cL_law 140 = .ok (.iconst 2, 1) := by decide +kernel
theorem dL_law_141 : decode cL_law 141 = .ok (.iadd, 1) := by decide +kernel
theorem dL_law_142 : decode cL_law 142 = .ok (.iaload, 1) := by decide +kernel
theorem dL_law_143 : decode cL_law 143 = .ok (.invokevirtual 13, 3) := by decide +kernel
theorem dL_law_146 : decode cL_law 146 = .ok (.aload_n 2, 1) := by decide +kernel
theorem dL_law_147 : decode cL_law 147 = .ok (.aload_n 0, 1) := by decide +kernel
theorem dL_law_148 : decode cL_law 148 = .ok (.iload_n 3, 1) := by decide +kernel
theorem dL_law_149 : decode cL_law 149 = .ok (.iconst 1, 1) := by decide +kernel
theorem dL_law_150 : decode cL_law 150 = .ok (.iadd, 1) := by decide +kernel
theorem dL_law_151 : decode cL_law 151 = .ok (.iaload, 1) := by decide +kernel
theorem dL_law_152 : decode cL_law 152 = .ok (.aload_n 0, 1) := by decide +kernel
theorem dL_law_153 : decode cL_law 153 = .ok (.iload_n 3, 1) := by decide +kernel
theorem dL_law_154 : decode cL_law 154 = .ok (.iconst 2, 1) := by decide +kernel
theorem dL_law_155 : decode cL_law 155 = .ok (.iadd, 1) := by decide +kernel
theorem dL_law_156 : decode cL_law 156 = .ok (.iaload, 1) := by decide +kernel
theorem dL_law_157 : decode cL_law 157 = .ok (.invokevirtual 17, 3) := by decide +kernel
theorem dL_law_160 : decode cL_law 160 = .ok (.if_icmp .eq 525, 3) := by decide +kernel
theorem dL_law_163 : decode cL_law 163 = .ok (.iconst 0, 1) := by decide +kernel
theorem dL_law_164 : decode cL_law 164 = .ok (.ireturn, 1) := by decide +kernel
theorem dL_law_165 : decode cL_law 165 = .ok (.aload_n 1, 1) := by decide +kernel
theorem dL_law_166 : decode cL_law 166 = .ok (.aload_n 0, 1) := by decide +kernel
theorem dL_law_167 : decode cL_law 167 = .ok (.iload_n 3, 1) := by decide +kernel
theorem dL_law_168 : decode cL_law 168 = .ok (.iconst 1, 1) := by decide +kernel
theorem dL_law_169 : decode cL_law 169 = .ok (.iadd, 1) := by decide +kernel
theorem dL_law_170 : decode cL_law 170 = .ok (.iaload, 1) := by decide +kernel
theorem dL_law_171 : decode cL_law 171 = .ok (.aload_n 0, 1) := by decide +kernel
theorem dL_law_172 : decode cL_law 172 = .ok (.iload_n 3, 1) := by decide +kernel
theorem dL_law_173 : decode cL_law 173 = .ok (.iconst 2, 1) := by decide +kernel
theorem dL_law_174 : decode cL_law 174 = .ok (.iadd, 1) := by decide +kernel
theorem dL_law_175 : decode cL_law 175 = .ok (.iaload, 1) := by decide +kernel
theorem dL_law_176 : decode cL_law 176 = .ok (.aload_n 0, 1) := by decide +kernel
theorem dL_law_177 : decode cL_law 177 = .ok (.iload_n 3, 1) := by decide +kernel
theorem dL_law_178 : decode cL_law 178 = .ok (.iconst 3, 1) := by decide +kernel
theorem dL_law_179 : decode cL_law 179 = .ok (.iadd, 1) := by decide +kernel
theorem dL_law_180 : decode cL_law 180 = .ok (.iaload, 1) := by decide +kernel
theorem dL_law_181 : decode cL_law 181 = .ok (.invokevirtual 18, 3) := by decide +kernel
theorem dL_law_184 : decode cL_law 184 = .ok (.aload_n 2, 1) := by decide +kernel
theorem dL_law_185 : decode cL_law 185 = .ok (.aload_n 0, 1) := by decide +kernel
theorem dL_law_186 : decode cL_law 186 = .ok (.iload_n 3, 1) := by decide +kernel
theorem dL_law_187 : decode cL_law 187 = .ok (.iconst 1, 1) := by decide +kernel
theorem dL_law_188 : decode cL_law 188 = .ok (.iadd, 1) := by decide +kernel
theorem dL_law_189 : decode cL_law 189 = .ok (.iaload, 1) := by decide +kernel
theorem dL_law_190 : decode cL_law 190 = .ok (.aload_n 0, 1) := by decide +kernel
theorem dL_law_191 : decode cL_law 191 = .ok (.iload_n 3, 1) := by decide +kernel
theorem dL_law_192 : decode cL_law 192 = .ok (.iconst 2, 1) := by decide +kernel
theorem dL_law_193 : decode cL_law 193 = .ok (.iadd, 1) := by decide +kernel
theorem dL_law_194 : decode cL_law 194 = .ok (.iaload, 1) := by decide +kernel
theorem dL_law_195 : decode cL_law 195 = .ok (.aload_n 0, 1) := by decide +kernel
theorem dL_law_196 : decode cL_law 196 = .ok (.iload_n 3, 1) := by decide +kernel
theorem dL_law_197 : decode cL_law 197 = .ok (.iconst 3, 1) := by decide +kernel
theorem dL_law_198 : decode cL_law 198 = .ok (.iadd, 1) := by decide +kernel
theorem dL_law_199 : decode cL_law 199 = .ok (.iaload, 1) := by decide +kernel
theorem dL_law_200 : decode cL_law 200 = .ok (.invokevirtual 22, 3) := by decide +kernel
theorem dL_law_203 : decode cL_law 203 = .ok (.if_icmp .eq 482, 3) := by decide +kernel
theorem dL_law_206 : decode cL_law 206 = .ok (.iconst 0, 1) := by decide +kernel
theorem dL_law_207 : decode cL_law 207 = .ok (.ireturn, 1) := by decide +kernel
theorem dL_law_208 : decode cL_law 208 = .ok (.aload_n 1, 1) := by decide +kernel
theorem dL_law_209 : decode cL_law 209 = .ok (.aload_n 0, 1) := by decide +kernel
theorem dL_law_210 : decode cL_law 210 = .ok (.iload_n 3, 1) := by decide +kernel
theorem dL_law_211 : decode cL_law 211 = .ok (.iconst 1, 1) := by decide +kernel
theorem dL_law_212 : decode cL_law 212 = .ok (.iadd, 1) := by decide +kernel
theorem dL_law_213 : decode cL_law 213 = .ok (.iaload, 1) := by decide +kernel
theorem dL_law_214 : decode cL_law 214 = .ok (.invokevirtual 23, 3) := by decide +kernel
theorem dL_law_217 : decode cL_law 217 = .ok (.aload_n 2, 1) := by decide +kernel
theorem dL_law_218 : decode cL_law 218 = .ok (.aload_n 0, 1) := by decide +kernel
theorem dL_law_219 : decode cL_law 219 = .ok (.iload_n 3, 1) := by decide +kernel
theorem dL_law_220 : decode cL_law 220 = .ok (.iconst 1, 1) := by decide +kernel
theorem dL_law_221 : decode cL_law 221 = .ok (.iadd, 1) := by decide +kernel
theorem dL_law_222 : decode cL_law 222 = .ok (.iaload, 1) := by decide +kernel
theorem dL_law_223 : decode cL_law 223 = .ok (.invokevirtual 27, 3) := by decide +kernel
theorem dL_law_226 : decode cL_law 226 = .ok (.if_icmp .eq 459, 3) := by decide +kernel
theorem dL_law_229 : decode cL_law 229 = .ok (.iconst 0, 1) := by decide +kernel
theorem dL_law_230 : decode cL_law 230 = .ok (.ireturn, 1) := by decide +kernel
theorem dL_law_231 : decode cL_law 231 = .ok (.aload_n 1, 1) := by decide +kernel
theorem dL_law_232 : decode cL_law 232 = .ok (.aload_n 0, 1) := by decide +kernel
theorem dL_law_233 : decode cL_law 233 = .ok (.iload_n 3, 1) := by decide +kernel
theorem dL_law_234 : decode cL_law 234 = .ok (.iconst 1, 1) := by decide +kernel
theorem dL_law_235 : decode cL_law 235 = .ok (.iadd, 1) := by decide +kernel
theorem dL_law_236 : decode cL_law 236 = .ok (.iaload, 1) := by decide +kernel
theorem dL_law_237 : decode cL_law 237 = .ok (.invokevirtual 28, 3) := by decide +kernel
theorem dL_law_240 : decode cL_law 240 = .ok (.aload_n 2, 1) := by decide +kernel
theorem dL_law_241 : decode cL_law 241 = .ok (.aload_n 0, 1) := by decide +kernel
theorem dL_law_242 : decode cL_law 242 = .ok (.iload_n 3, 1) := by decide +kernel
theorem dL_law_243 : decode cL_law 243 = .ok (.iconst 1, 1) := by decide +kernel
theorem dL_law_244 : decode cL_law 244 = .ok (.iadd, 1) := by decide +kernel
theorem dL_law_245 : decode cL_law 245 = .ok (.iaload, 1) := by decide +kernel
theorem dL_law_246 : decode cL_law 246 = .ok (.invokevirtual 31, 3) := by decide +kernel
theorem dL_law_249 : decode cL_law 249 = .ok (.if_icmp .eq 436, 3) := by decide +kernel
theorem dL_law_252 : decode cL_law 252 = .ok (.iconst 0, 1) := by decide +kernel
theorem dL_law_253 : decode cL_law 253 = .ok (.ireturn, 1) := by decide +kernel
theorem dL_law_254 : decode cL_law 254 = .ok (.aload_n 1, 1) := by decide +kernel
theorem dL_law_255 : decode cL_law 255 = .ok (.aload_n 0, 1) := by decide +kernel
theorem dL_law_256 : decode cL_law 256 = .ok (.iload_n 3, 1) := by decide +kernel
theorem dL_law_257 : decode cL_law 257 = .ok (.iconst 1, 1) := by decide +kernel
theorem dL_law_258 : decode cL_law 258 = .ok (.iadd, 1) := by decide +kernel
theorem dL_law_259 : decode cL_law 259 = .ok (.iaload, 1) := by decide +kernel
theorem dL_law_260 : decode cL_law 260 = .ok (.invokevirtual 32, 3) := by decide +kernel
theorem dL_law_263 : decode cL_law 263 = .ok (.aload_n 2, 1) := by decide +kernel
theorem dL_law_264 : decode cL_law 264 = .ok (.aload_n 0, 1) := by decide +kernel
theorem dL_law_265 : decode cL_law 265 = .ok (.iload_n 3, 1) := by decide +kernel
theorem dL_law_266 : decode cL_law 266 = .ok (.iconst 1, 1) := by decide +kernel
theorem dL_law_267 : decode cL_law 267 = .ok (.iadd, 1) := by decide +kernel
theorem dL_law_268 : decode cL_law 268 = .ok (.iaload, 1) := by decide +kernel
theorem dL_law_269 : decode cL_law 269 = .ok (.invokevirtual 35, 3) := by decide +kernel
theorem dL_law_272 : decode cL_law 272 = .ok (.if_icmp .eq 413, 3) := by decide +kernel
theorem dL_law_275 : decode cL_law 275 = .ok (.iconst 0, 1) := by decide +kernel
theorem dL_law_276 : decode cL_law 276 = .ok (.ireturn, 1) := by decide +kernel
theorem dL_law_277 : decode cL_law 277 = .ok (.aload_n 1, 1) := by decide +kernel
theorem dL_law_278 : decode cL_law 278 = .ok (.aload_n 0, 1) := by decide +kernel
theorem dL_law_279 : decode cL_law 279 = .ok (.iload_n 3, 1) := by decide +kernel
theorem dL_law_280 : decode cL_law 280 = .ok (.iconst 1, 1) := by decide +kernel
theorem dL_law_281 : decode cL_law 281 = .ok (.iadd, 1) := by decide +kernel
theorem dL_law_282 : decode cL_law 282 = .ok (.iaload, 1) := by decide +kernel
theorem dL_law_283 : decode cL_law 283 = .ok (.invokevirtual 36, 3) := by decide +kernel
theorem dL_law_286 : decode cL_law 286 = .ok (.aload_n 2, 1) := by decide +kernel
theorem dL_law_287 : decode cL_law 287 = .ok (.aload_n 0, 1) := by decide +kernel
theorem dL_law_288 : decode cL_law 288 = .ok (.iload_n 3, 1) := by decide +kernel
theorem dL_law_289 : decode cL_law 289 = .ok (.iconst 1, 1) := by decide +kernel
theorem dL_law_290 : decode cL_law 290 = .ok (.iadd, 1) := by decide +kernel
theorem dL_law_291 : decode cL_law 291 = .ok (.iaload, 1) := by decide +kernel
theorem dL_law_292 : decode cL_law 292 = .ok (.invokevirtual 39, 3) := by decide +kernel
theorem dL_law_295 : decode cL_law 295 = .ok (.if_icmp .eq 390, 3) := by decide +kernel
theorem dL_law_298 : decode cL_law 298 = .ok (.iconst 0, 1) := by decide +kernel
theorem dL_law_299 : decode cL_law 299 = .ok (.ireturn, 1) := by decide +kernel
theorem dL_law_300 : decode cL_law 300 = .ok (.aload_n 1, 1) := by decide +kernel
theorem dL_law_301 : decode cL_law 301 = .ok (.aload_n 0, 1) := by decide +kernel
theorem dL_law_302 : decode cL_law 302 = .ok (.iload_n 3, 1) := by decide +kernel
theorem dL_law_303 : decode cL_law 303 = .ok (.iconst 1, 1) := by decide +kernel
theorem dL_law_304 : decode cL_law 304 = .ok (.iadd, 1) := by decide +kernel
theorem dL_law_305 : decode cL_law 305 = .ok (.iaload, 1) := by decide +kernel
theorem dL_law_306 : decode cL_law 306 = .ok (.aload_n 0, 1) := by decide +kernel
theorem dL_law_307 : decode cL_law 307 = .ok (.iload_n 3, 1) := by decide +kernel
theorem dL_law_308 : decode cL_law 308 = .ok (.iconst 2, 1) := by decide +kernel
theorem dL_law_309 : decode cL_law 309 = .ok (.iadd, 1) := by decide +kernel
theorem dL_law_310 : decode cL_law 310 = .ok (.iaload, 1) := by decide +kernel
theorem dL_law_311 : decode cL_law 311 = .ok (.invokevirtual 40, 3) := by decide +kernel
theorem dL_law_314 : decode cL_law 314 = .ok (.aload_n 2, 1) := by decide +kernel
theorem dL_law_315 : decode cL_law 315 = .ok (.aload_n 0, 1) := by decide +kernel
theorem dL_law_316 : decode cL_law 316 = .ok (.iload_n 3, 1) := by decide +kernel
theorem dL_law_317 : decode cL_law 317 = .ok (.iconst 1, 1) := by decide +kernel
theorem dL_law_318 : decode cL_law 318 = .ok (.iadd, 1) := by decide +kernel
theorem dL_law_319 : decode cL_law 319 = .ok (.iaload, 1) := by decide +kernel
theorem dL_law_320 : decode cL_law 320 = .ok (.aload_n 0, 1) := by decide +kernel
theorem dL_law_321 : decode cL_law 321 = .ok (.iload_n 3, 1) := by decide +kernel
theorem dL_law_322 : decode cL_law 322 = .ok (.iconst 2, 1) := by decide +kernel
theorem dL_law_323 : decode cL_law 323 = .ok (.iadd, 1) := by decide +kernel
theorem dL_law_324 : decode cL_law 324 = .ok (.iaload, 1) := by decide +kernel
theorem dL_law_325 : decode cL_law 325 = .ok (.invokevirtual 43, 3) := by decide +kernel
theorem dL_law_328 : decode cL_law 328 = .ok (.if_icmp .eq 357, 3) := by decide +kernel
theorem dL_law_331 : decode cL_law 331 = .ok (.iconst 0, 1) := by decide +kernel
theorem dL_law_332 : decode cL_law 332 = .ok (.ireturn, 1) := by decide +kernel
theorem dL_law_333 : decode cL_law 333 = .ok (.aload_n 1, 1) := by decide +kernel
theorem dL_law_334 : decode cL_law 334 = .ok (.aload_n 0, 1) := by decide +kernel
theorem dL_law_335 : decode cL_law 335 = .ok (.iload_n 3, 1) := by decide +kernel
theorem dL_law_336 : decode cL_law 336 = .ok (.iconst 1, 1) := by decide +kernel
theorem dL_law_337 : decode cL_law 337 = .ok (.iadd, 1) := by decide +kernel
theorem dL_law_338 : decode cL_law 338 = .ok (.iaload, 1) := by decide +kernel
theorem dL_law_339 : decode cL_law 339 = .ok (.aload_n 0, 1) := by decide +kernel
theorem dL_law_340 : decode cL_law 340 = .ok (.iload_n 3, 1) := by decide +kernel
theorem dL_law_341 : decode cL_law 341 = .ok (.iconst 2, 1) := by decide +kernel
theorem dL_law_342 : decode cL_law 342 = .ok (.iadd, 1) := by decide +kernel
theorem dL_law_343 : decode cL_law 343 = .ok (.iaload, 1) := by decide +kernel
theorem dL_law_344 : decode cL_law 344 = .ok (.invokevirtual 44, 3) := by decide +kernel
theorem dL_law_347 : decode cL_law 347 = .ok (.aload_n 2, 1) := by decide +kernel
theorem dL_law_348 : decode cL_law 348 = .ok (.aload_n 0, 1) := by decide +kernel
theorem dL_law_349 : decode cL_law 349 = .ok (.iload_n 3, 1) := by decide +kernel
theorem dL_law_350 : decode cL_law 350 = .ok (.iconst 1, 1) := by decide +kernel
theorem dL_law_351 : decode cL_law 351 = .ok (.iadd, 1) := by decide +kernel
theorem dL_law_352 : decode cL_law 352 = .ok (.iaload, 1) := by decide +kernel
theorem dL_law_353 : decode cL_law 353 = .ok (.aload_n 0, 1) := by decide +kernel
theorem dL_law_354 : decode cL_law 354 = .ok (.iload_n 3, 1) := by decide +kernel
theorem dL_law_355 : decode cL_law 355 = .ok (.iconst 2, 1) := by decide +kernel
theorem dL_law_356 : decode cL_law 356 = .ok (.iadd, 1) := by decide +kernel
theorem dL_law_357 : decode cL_law 357 = .ok (.iaload, 1) := by decide +kernel
theorem dL_law_358 : decode cL_law 358 = .ok (.invokevirtual 47, 3) := by decide +kernel
theorem dL_law_361 : decode cL_law 361 = .ok (.if_icmp .eq 324, 3) := by decide +kernel
theorem dL_law_364 : decode cL_law 364 = .ok (.iconst 0, 1) := by decide +kernel
theorem dL_law_365 : decode cL_law 365 = .ok (.ireturn, 1) := by decide +kernel
theorem dL_law_366 : decode cL_law 366 = .ok (.aload_n 1, 1) := by decide +kernel
theorem dL_law_367 : decode cL_law 367 = .ok (.aload_n 0, 1) := by decide +kernel
theorem dL_law_368 : decode cL_law 368 = .ok (.iload_n 3, 1) := by decide +kernel
theorem dL_law_369 : decode cL_law 369 = .ok (.iconst 1, 1) := by decide +kernel
theorem dL_law_370 : decode cL_law 370 = .ok (.iadd, 1) := by decide +kernel
theorem dL_law_371 : decode cL_law 371 = .ok (.iaload, 1) := by decide +kernel
theorem dL_law_372 : decode cL_law 372 = .ok (.invokevirtual 48, 3) := by decide +kernel
theorem dL_law_375 : decode cL_law 375 = .ok (.aload_n 2, 1) := by decide +kernel
theorem dL_law_376 : decode cL_law 376 = .ok (.aload_n 0, 1) := by decide +kernel
theorem dL_law_377 : decode cL_law 377 = .ok (.iload_n 3, 1) := by decide +kernel
theorem dL_law_378 : decode cL_law 378 = .ok (.iconst 1, 1) := by decide +kernel
theorem dL_law_379 : decode cL_law 379 = .ok (.iadd, 1) := by decide +kernel
theorem dL_law_380 : decode cL_law 380 = .ok (.iaload, 1) := by decide +kernel
theorem dL_law_381 : decode cL_law 381 = .ok (.invokevirtual 51, 3) := by decide +kernel
theorem dL_law_384 : decode cL_law 384 = .ok (.if_icmp .eq 301, 3) := by decide +kernel
theorem dL_law_387 : decode cL_law 387 = .ok (.iconst 0, 1) := by decide +kernel
theorem dL_law_388 : decode cL_law 388 = .ok (.ireturn, 1) := by decide +kernel
theorem dL_law_389 : decode cL_law 389 = .ok (.aload_n 1, 1) := by decide +kernel
theorem dL_law_390 : decode cL_law 390 = .ok (.aload_n 0, 1) := by decide +kernel
theorem dL_law_391 : decode cL_law 391 = .ok (.iload_n 3, 1) := by decide +kernel
theorem dL_law_392 : decode cL_law 392 = .ok (.iconst 1, 1) := by decide +kernel
theorem dL_law_393 : decode cL_law 393 = .ok (.iadd, 1) := by decide +kernel
theorem dL_law_394 : decode cL_law 394 = .ok (.iaload, 1) := by decide +kernel
theorem dL_law_395 : decode cL_law 395 = .ok (.invokevirtual 52, 3) := by decide +kernel
theorem dL_law_398 : decode cL_law 398 = .ok (.aload_n 2, 1) := by decide +kernel
theorem dL_law_399 : decode cL_law 399 = .ok (.aload_n 0, 1) := by decide +kernel
theorem dL_law_400 : decode cL_law 400 = .ok (.iload_n 3, 1) := by decide +kernel
theorem dL_law_401 : decode cL_law 401 = .ok (.iconst 1, 1) := by decide +kernel
theorem dL_law_402 : decode cL_law 402 = .ok (.iadd, 1) := by decide +kernel
theorem dL_law_403 : decode cL_law 403 = .ok (.iaload, 1) := by decide +kernel
theorem dL_law_404 : decode cL_law 404 = .ok (.invokevirtual 55, 3) := by decide +kernel
theorem dL_law_407 : decode cL_law 407 = .ok (.if_icmp .eq 278, 3) := by decide +kernel
theorem dL_law_410 : decode cL_law 410 = .ok (.iconst 0, 1) := by decide +kernel
theorem dL_law_411 : decode cL_law 411 = .ok (.ireturn, 1) := by decide +kernel
theorem dL_law_412 : decode cL_law 412 = .ok (.aload_n 1, 1) := by decide +kernel
theorem dL_law_413 : decode cL_law 413 = .ok (.aload_n 0, 1) := by decide +kernel
theorem dL_law_414 : decode cL_law 414 = .ok (.iload_n 3, 1) := by decide +kernel
theorem dL_law_415 : decode cL_law 415 = .ok (.iconst 1, 1) := by decide +kernel
theorem dL_law_416 : decode cL_law 416 = .ok (.iadd, 1) := by decide +kernel
theorem dL_law_417 : decode cL_law 417 = .ok (.iaload, 1) := by decide +kernel
theorem dL_law_418 : decode cL_law 418 = .ok (.invokevirtual 56, 3) := by decide +kernel
theorem dL_law_421 : decode cL_law 421 = .ok (.aload_n 2, 1) := by decide +kernel
theorem dL_law_422 : decode cL_law 422 = .ok (.aload_n 0, 1) := by decide +kernel
theorem dL_law_423 : decode cL_law 423 = .ok (.iload_n 3, 1) := by decide +kernel
theorem dL_law_424 : decode cL_law 424 = .ok (.iconst 1, 1) := by decide +kernel
theorem dL_law_425 : decode cL_law 425 = .ok (.iadd, 1) := by decide +kernel
theorem dL_law_426 : decode cL_law 426 = .ok (.iaload, 1) := by decide +kernel
theorem dL_law_427 : decode cL_law 427 = .ok (.invokevirtual 59, 3) := by decide +kernel
theorem dL_law_430 : decode cL_law 430 = .ok (.if_icmp .eq 255, 3) := by decide +kernel
theorem dL_law_433 : decode cL_law 433 = .ok (.iconst 0, 1) := by decide +kernel
theorem dL_law_434 : decode cL_law 434 = .ok (.ireturn, 1) := by decide +kernel
theorem dL_law_435 : decode cL_law 435 = .ok (.aload_n 1, 1) := by decide +kernel
theorem dL_law_436 : decode cL_law 436 = .ok (.aload_n 0, 1) := by decide +kernel
theorem dL_law_437 : decode cL_law 437 = .ok (.iload_n 3, 1) := by decide +kernel
theorem dL_law_438 : decode cL_law 438 = .ok (.iconst 1, 1) := by decide +kernel
theorem dL_law_439 : decode cL_law 439 = .ok (.iadd, 1) := by decide +kernel
theorem dL_law_440 : decode cL_law 440 = .ok (.iaload, 1) := by decide +kernel
theorem dL_law_441 : decode cL_law 441 = .ok (.invokevirtual 60, 3) := by decide +kernel
theorem dL_law_444 : decode cL_law 444 = .ok (.aload_n 2, 1) := by decide +kernel
theorem dL_law_445 : decode cL_law 445 = .ok (.aload_n 0, 1) := by decide +kernel
theorem dL_law_446 : decode cL_law 446 = .ok (.iload_n 3, 1) := by decide +kernel
theorem dL_law_447 : decode cL_law 447 = .ok (.iconst 1, 1) := by decide +kernel
theorem dL_law_448 : decode cL_law 448 = .ok (.iadd, 1) := by decide +kernel
theorem dL_law_449 : decode cL_law 449 = .ok (.iaload, 1) := by decide +kernel
theorem dL_law_450 : decode cL_law 450 = .ok (.invokevirtual 63, 3) := by decide +kernel
theorem dL_law_453 : decode cL_law 453 = .ok (.if_icmp .eq 232, 3) := by decide +kernel
theorem dL_law_456 : decode cL_law 456 = .ok (.iconst 0, 1) := by decide +kernel
theorem dL_law_457 : decode cL_law 457 = .ok (.ireturn, 1) := by decide +kernel
theorem dL_law_458 : decode cL_law 458 = .ok (.aload_n 1, 1) := by decide +kernel
theorem dL_law_459 : decode cL_law 459 = .ok (.aload_n 0, 1) := by decide +kernel
theorem dL_law_460 : decode cL_law 460 = .ok (.iload_n 3, 1) := by decide +kernel
theorem dL_law_461 : decode cL_law 461 = .ok (.iconst 1, 1) := by decide +kernel
theorem dL_law_462 : decode cL_law 462 = .ok (.iadd, 1) := by decide +kernel
theorem dL_law_463 : decode cL_law 463 = .ok (.iaload, 1) := by decide +kernel
theorem dL_law_464 : decode cL_law 464 = .ok (.aload_n 0, 1) := by decide +kernel
theorem dL_law_465 : decode cL_law 465 = .ok (.iload_n 3, 1) := by decide +kernel
theorem dL_law_466 : decode cL_law 466 = .ok (.iconst 2, 1) := by decide +kernel
theorem dL_law_467 : decode cL_law 467 = .ok (.iadd, 1) := by decide +kernel
theorem dL_law_468 : decode cL_law 468 = .ok (.iaload, 1) := by decide +kernel
theorem dL_law_469 : decode cL_law 469 = .ok (.invokevirtual 64, 3) := by decide +kernel
theorem dL_law_472 : decode cL_law 472 = .ok (.aload_n 2, 1) := by decide +kernel
theorem dL_law_473 : decode cL_law 473 = .ok (.aload_n 0, 1) := by decide +kernel
theorem dL_law_474 : decode cL_law 474 = .ok (.iload_n 3, 1) := by decide +kernel
theorem dL_law_475 : decode cL_law 475 = .ok (.iconst 1, 1) := by decide +kernel
theorem dL_law_476 : decode cL_law 476 = .ok (.iadd, 1) := by decide +kernel
theorem dL_law_477 : decode cL_law 477 = .ok (.iaload, 1) := by decide +kernel
theorem dL_law_478 : decode cL_law 478 = .ok (.aload_n 0, 1) := by decide +kernel
theorem dL_law_479 : decode cL_law 479 = .ok (.iload_n 3, 1) := by decide +kernel
theorem dL_law_480 : decode cL_law 480 = .ok (.iconst 2, 1) := by decide +kernel
theorem dL_law_481 : decode cL_law 481 = .ok (.iadd, 1) := by decide +kernel
theorem dL_law_482 : decode cL_law 482 = .ok (.iaload, 1) := by decide +kernel
theorem dL_law_483 : decode cL_law 483 = .ok (.invokevirtual 67, 3) := by decide +kernel
theorem dL_law_486 : decode cL_law 486 = .ok (.if_icmp .eq 199, 3) := by decide +kernel
theorem dL_law_489 : decode cL_law 489 = .ok (.iconst 0, 1) := by decide +kernel
theorem dL_law_490 : decode cL_law 490 = .ok (.ireturn, 1) := by decide +kernel
theorem dL_law_491 : decode cL_law 491 = .ok (.aload_n 1, 1) := by decide +kernel
theorem dL_law_492 : decode cL_law 492 = .ok (.aload_n 0, 1) := by decide +kernel
theorem dL_law_493 : decode cL_law 493 = .ok (.iload_n 3, 1) := by decide +kernel
theorem dL_law_494 : decode cL_law 494 = .ok (.iconst 1, 1) := by decide +kernel
theorem dL_law_495 : decode cL_law 495 = .ok (.iadd, 1) := by decide +kernel
theorem dL_law_496 : decode cL_law 496 = .ok (.iaload, 1) := by decide +kernel
theorem dL_law_497 : decode cL_law 497 = .ok (.aload_n 0, 1) := by decide +kernel
theorem dL_law_498 : decode cL_law 498 = .ok (.iload_n 3, 1) := by decide +kernel
theorem dL_law_499 : decode cL_law 499 = .ok (.iconst 2, 1) := by decide +kernel
theorem dL_law_500 : decode cL_law 500 = .ok (.iadd, 1) := by decide +kernel
theorem dL_law_501 : decode cL_law 501 = .ok (.iaload, 1) := by decide +kernel
theorem dL_law_502 : decode cL_law 502 = .ok (.aload_n 0, 1) := by decide +kernel
theorem dL_law_503 : decode cL_law 503 = .ok (.iload_n 3, 1) := by decide +kernel
theorem dL_law_504 : decode cL_law 504 = .ok (.iconst 3, 1) := by decide +kernel
theorem dL_law_505 : decode cL_law 505 = .ok (.iadd, 1) := by decide +kernel
theorem dL_law_506 : decode cL_law 506 = .ok (.iaload, 1) := by decide +kernel
theorem dL_law_507 : decode cL_law 507 = .ok (.invokevirtual 68, 3) := by decide +kernel
theorem dL_law_510 : decode cL_law 510 = .ok (.aload_n 2, 1) := by decide +kernel
theorem dL_law_511 : decode cL_law 511 = .ok (.aload_n 0, 1) := by decide +kernel
theorem dL_law_512 : decode cL_law 512 = .ok (.iload_n 3, 1) := by decide +kernel
theorem dL_law_513 : decode cL_law 513 = .ok (.iconst 1, 1) := by decide +kernel
theorem dL_law_514 : decode cL_law 514 = .ok (.iadd, 1) := by decide +kernel
theorem dL_law_515 : decode cL_law 515 = .ok (.iaload, 1) := by decide +kernel
theorem dL_law_516 : decode cL_law 516 = .ok (.aload_n 0, 1) := by decide +kernel
theorem dL_law_517 : decode cL_law 517 = .ok (.iload_n 3, 1) := by decide +kernel
theorem dL_law_518 : decode cL_law 518 = .ok (.iconst 2, 1) := by decide +kernel
theorem dL_law_519 : decode cL_law 519 = .ok (.iadd, 1) := by decide +kernel
theorem dL_law_520 : decode cL_law 520 = .ok (.iaload, 1) := by decide +kernel
theorem dL_law_521 : decode cL_law 521 = .ok (.aload_n 0, 1) := by decide +kernel
theorem dL_law_522 : decode cL_law 522 = .ok (.iload_n 3, 1) := by decide +kernel
theorem dL_law_523 : decode cL_law 523 = .ok (.iconst 3, 1) := by decide +kernel
theorem dL_law_524 : decode cL_law 524 = .ok (.iadd, 1) := by decide +kernel
theorem dL_law_525 : decode cL_law 525 = .ok (.iaload, 1) := by decide +kernel
theorem dL_law_526 : decode cL_law 526 = .ok (.invokevirtual 71, 3) := by decide +kernel
theorem dL_law_529 : decode cL_law 529 = .ok (.if_icmp .eq 156, 3) := by decide +kernel
theorem dL_law_532 : decode cL_law 532 = .ok (.iconst 0, 1) := by decide +kernel
theorem dL_law_533 : decode cL_law 533 = .ok (.ireturn, 1) := by decide +kernel
theorem dL_law_534 : decode cL_law 534 = .ok (.aload_n 1, 1) := by decide +kernel
theorem dL_law_535 : decode cL_law 535 = .ok (.aload_n 0, 1) := by decide +kernel
theorem dL_law_536 : decode cL_law 536 = .ok (.iload_n 3, 1) := by decide +kernel
theorem dL_law_537 : decode cL_law 537 = .ok (.iconst 1, 1) := by decide +kernel
theorem dL_law_538 : decode cL_law 538 = .ok (.iadd, 1) := by decide +kernel
theorem dL_law_539 : decode cL_law 539 = .ok (.iaload, 1) := by decide +kernel
theorem dL_law_540 : decode cL_law 540 = .ok (.i2l, 1) := by decide +kernel
theorem dL_law_541 : decode cL_law 541 = .ok (.bipush 32, 2) := by decide +kernel
theorem dL_law_543 : decode cL_law 543 = .ok (.lshl, 1) := by decide +kernel
theorem dL_law_544 : decode cL_law 544 = .ok (.aload_n 0, 1) := by decide +kernel
theorem dL_law_545 : decode cL_law 545 = .ok (.iload_n 3, 1) := by decide +kernel
theorem dL_law_546 : decode cL_law 546 = .ok (.iconst 2, 1) := by decide +kernel
theorem dL_law_547 : decode cL_law 547 = .ok (.iadd, 1) := by decide +kernel
theorem dL_law_548 : decode cL_law 548 = .ok (.iaload, 1) := by decide +kernel
theorem dL_law_549 : decode cL_law 549 = .ok (.i2l, 1) := by decide +kernel
theorem dL_law_550 : decode cL_law 550 = .ok (.ldc2_w 72, 3) := by decide +kernel
theorem dL_law_553 : decode cL_law 553 = .ok (.land, 1) := by decide +kernel
theorem dL_law_554 : decode cL_law 554 = .ok (.lor, 1) := by decide +kernel
theorem dL_law_555 : decode cL_law 555 = .ok (.invokevirtual 74, 3) := by decide +kernel
theorem dL_law_558 : decode cL_law 558 = .ok (.aload_n 2, 1) := by decide +kernel
theorem dL_law_559 : decode cL_law 559 = .ok (.aload_n 0, 1) := by decide +kernel
theorem dL_law_560 : decode cL_law 560 = .ok (.iload_n 3, 1) := by decide +kernel
theorem dL_law_561 : decode cL_law 561 = .ok (.iconst 1, 1) := by decide +kernel
theorem dL_law_562 : decode cL_law 562 = .ok (.iadd, 1) := by decide +kernel
theorem dL_law_563 : decode cL_law 563 = .ok (.iaload, 1) := by decide +kernel
theorem dL_law_564 : decode cL_law 564 = .ok (.i2l, 1) := by decide +kernel
theorem dL_law_565 : decode cL_law 565 = .ok (.bipush 32, 2) := by decide +kernel
theorem dL_law_567 : decode cL_law 567 = .ok (.lshl, 1) := by decide +kernel
theorem dL_law_568 : decode cL_law 568 = .ok (.aload_n 0, 1) := by decide +kernel
theorem dL_law_569 : decode cL_law 569 = .ok (.iload_n 3, 1) := by decide +kernel
theorem dL_law_570 : decode cL_law 570 = .ok (.iconst 2, 1) := by decide +kernel
theorem dL_law_571 : decode cL_law 571 = .ok (.iadd, 1) := by decide +kernel
theorem dL_law_572 : decode cL_law 572 = .ok (.iaload, 1) := by decide +kernel
theorem dL_law_573 : decode cL_law 573 = .ok (.i2l, 1) := by decide +kernel
theorem dL_law_574 : decode cL_law 574 = .ok (.ldc2_w 72, 3) := by decide +kernel
theorem dL_law_577 : decode cL_law 577 = .ok (.land, 1) := by decide +kernel
theorem dL_law_578 : decode cL_law 578 = .ok (.lor, 1) := by decide +kernel
theorem dL_law_579 : decode cL_law 579 = .ok (.invokevirtual 78, 3) := by decide +kernel
theorem dL_law_582 : decode cL_law 582 = .ok (.if_icmp .eq 103, 3) := by decide +kernel
theorem dL_law_585 : decode cL_law 585 = .ok (.iconst 0, 1) := by decide +kernel
theorem dL_law_586 : decode cL_law 586 = .ok (.ireturn, 1) := by decide +kernel
theorem dL_law_587 : decode cL_law 587 = .ok (.aload_n 1, 1) := by decide +kernel
theorem dL_law_588 : decode cL_law 588 = .ok (.invokevirtual 79, 3) := by decide +kernel
theorem dL_law_591 : decode cL_law 591 = .ok (.aload_n 2, 1) := by decide +kernel
theorem dL_law_592 : decode cL_law 592 = .ok (.invokevirtual 83, 3) := by decide +kernel
theorem dL_law_595 : decode cL_law 595 = .ok (.if_icmp .eq 90, 3) := by decide +kernel
theorem dL_law_598 : decode cL_law 598 = .ok (.iconst 0, 1) := by decide +kernel
theorem dL_law_599 : decode cL_law 599 = .ok (.ireturn, 1) := by decide +kernel
theorem dL_law_600 : decode cL_law 600 = .ok (.aload_n 1, 1) := by decide +kernel
theorem dL_law_601 : decode cL_law 601 = .ok (.invokevirtual 84, 3) := by decide +kernel
theorem dL_law_604 : decode cL_law 604 = .ok (.aload_n 2, 1) := by decide +kernel
theorem dL_law_605 : decode cL_law 605 = .ok (.invokevirtual 87, 3) := by decide +kernel
theorem dL_law_608 : decode cL_law 608 = .ok (.if_icmp .eq 77, 3) := by decide +kernel
theorem dL_law_611 : decode cL_law 611 = .ok (.iconst 0, 1) := by decide +kernel
theorem dL_law_612 : decode cL_law 612 = .ok (.ireturn, 1) := by decide +kernel
theorem dL_law_613 : decode cL_law 613 = .ok (.aload_n 1, 1) := by decide +kernel
theorem dL_law_614 : decode cL_law 614 = .ok (.invokevirtual 88, 3) := by decide +kernel
theorem dL_law_617 : decode cL_law 617 = .ok (.aload_n 2, 1) := by decide +kernel
theorem dL_law_618 : decode cL_law 618 = .ok (.invokevirtual 91, 3) := by decide +kernel
theorem dL_law_621 : decode cL_law 621 = .ok (.if_icmp .eq 64, 3) := by decide +kernel
theorem dL_law_624 : decode cL_law 624 = .ok (.iconst 0, 1) := by decide +kernel
theorem dL_law_625 : decode cL_law 625 = .ok (.ireturn, 1) := by decide +kernel
theorem dL_law_626 : decode cL_law 626 = .ok (.aload_n 1, 1) := by decide +kernel
theorem dL_law_627 : decode cL_law 627 = .ok (.invokevirtual 92, 3) := by decide +kernel
theorem dL_law_630 : decode cL_law 630 = .ok (.aload_n 2, 1) := by decide +kernel
theorem dL_law_631 : decode cL_law 631 = .ok (.invokevirtual 95, 3) := by decide +kernel
theorem dL_law_634 : decode cL_law 634 = .ok (.if_icmp .eq 51, 3) := by decide +kernel
theorem dL_law_637 : decode cL_law 637 = .ok (.iconst 0, 1) := by decide +kernel
theorem dL_law_638 : decode cL_law 638 = .ok (.ireturn, 1) := by decide +kernel
theorem dL_law_639 : decode cL_law 639 = .ok (.aload_n 1, 1) := by decide +kernel
theorem dL_law_640 : decode cL_law 640 = .ok (.aload_n 0, 1) := by decide +kernel
theorem dL_law_641 : decode cL_law 641 = .ok (.iload_n 3, 1) := by decide +kernel
theorem dL_law_642 : decode cL_law 642 = .ok (.iconst 1, 1) := by decide +kernel
theorem dL_law_643 : decode cL_law 643 = .ok (.iadd, 1) := by decide +kernel
theorem dL_law_644 : decode cL_law 644 = .ok (.iaload, 1) := by decide +kernel
theorem dL_law_645 : decode cL_law 645 = .ok (.invokevirtual 96, 3) := by decide +kernel
theorem dL_law_648 : decode cL_law 648 = .ok (.aload_n 2, 1) := by decide +kernel
theorem dL_law_649 : decode cL_law 649 = .ok (.aload_n 0, 1) := by decide +kernel
theorem dL_law_650 : decode cL_law 650 = .ok (.iload_n 3, 1) := by decide +kernel
theorem dL_law_651 : decode cL_law 651 = .ok (.iconst 1, 1) := by decide +kernel
theorem dL_law_652 : decode cL_law 652 = .ok (.iadd, 1) := by decide +kernel
theorem dL_law_653 : decode cL_law 653 = .ok (.iaload, 1) := by decide +kernel
theorem dL_law_654 : decode cL_law 654 = .ok (.invokevirtual 99, 3) := by decide +kernel
theorem dL_law_657 : decode cL_law 657 = .ok (.if_icmp .eq 28, 3) := by decide +kernel
theorem dL_law_660 : decode cL_law 660 = .ok (.iconst 0, 1) := by decide +kernel
theorem dL_law_661 : decode cL_law 661 = .ok (.ireturn, 1) := by decide +kernel
theorem dL_law_662 : decode cL_law 662 = .ok (.aload_n 1, 1) := by decide +kernel
theorem dL_law_663 : decode cL_law 663 = .ok (.aload_n 0, 1) := by decide +kernel
theorem dL_law_664 : decode cL_law 664 = .ok (.iload_n 3, 1) := by decide +kernel
theorem dL_law_665 : decode cL_law 665 = .ok (.iconst 1, 1) := by decide +kernel
theorem dL_law_666 : decode cL_law 666 = .ok (.iadd, 1) := by decide +kernel
theorem dL_law_667 : decode cL_law 667 = .ok (.iaload, 1) := by decide +kernel
theorem dL_law_668 : decode cL_law 668 = .ok (.invokevirtual 100, 3) := by decide +kernel
theorem dL_law_671 : decode cL_law 671 = .ok (.aload_n 2, 1) := by decide +kernel
theorem dL_law_672 : decode cL_law 672 = .ok (.aload_n 0, 1) := by decide +kernel
theorem dL_law_673 : decode cL_law 673 = .ok (.iload_n 3, 1) := by decide +kernel
theorem dL_law_674 : decode cL_law 674 = .ok (.iconst 1, 1) := by decide +kernel
theorem dL_law_675 : decode cL_law 675 = .ok (.iadd, 1) := by decide +kernel
theorem dL_law_676 : decode cL_law 676 = .ok (.iaload, 1) := by decide +kernel
theorem dL_law_677 : decode cL_law 677 = .ok (.invokevirtual 103, 3) := by decide +kernel
theorem dL_law_680 : decode cL_law 680 = .ok (.if_icmp .eq 5, 3) := by decide +kernel
theorem dL_law_683 : decode cL_law 683 = .ok (.iconst 0, 1) := by decide +kernel
theorem dL_law_684 : decode cL_law 684 = .ok (.ireturn, 1) := by decide +kernel
theorem dL_law_685 : decode cL_law 685 = .ok (.iinc 3 4, 3) := by decide +kernel
theorem dL_law_688 : decode cL_law 688 = .ok (.goto (-670), 3) := by decide +kernel
theorem dL_law_691 : decode cL_law 691 = .ok (.iconst 1, 1) := by decide +kernel
theorem dL_law_692 : decode cL_law 692 = .ok (.ireturn, 1) := by decide +kernel
end
section
/-! The base: one list of words for all methods, states, contracts whose answer and world are told exactly, the rows that walk with them -/
def GW : List Cond := lw_tbl.filter goodWord
theorem gwm {w : Cond} (i : Nat) (h : lw_tbl[i]? = some w) (hg : goodWord w = true) : w ∈ GW := List.mem_filter.mpr ⟨List.mem_of_getElem? h, hg⟩
abbrev wsY (y : MethodName) (cc : ByteArray) (n : Nat) (ret : Option FieldType) : List Cond := .code y cc n ret :: GW
theorem goodY {Ts : List Cond} {z : MethodName} {cz : ByteArray} {nz : Nat} {rz : Option FieldType} (hT : ∀ w ∈ GW, w ∈ Ts) (h : Cond.code z cz nz rz ∈ GW) : GoodIn Ts (wsY z cz nz rz) := by
  intro w hw
  rcases List.mem_cons.mp hw with rfl | hw
  · exact ⟨hT _ h, good_of_word (List.mem_filter.mp h).2⟩
  · exact ⟨hT _ hw, good_of_word (List.mem_filter.mp hw).2⟩
def k_nest : Cond → Bool
  | .fieldLinkNest .. => true
  | .methodLinkNest .. => true
  | _ => false
def NWL : List Cond := tables_1.filter k_nest
theorem nwm {w : Cond} (i : Nat) (h : tables_1[i]? = some w) (hg : k_nest w = true) : w ∈ NWL := List.mem_filter.mpr ⟨List.mem_of_getElem? h, hg⟩
abbrev CS : Type := Nat → Nat → Int32
def st2 (u : CS) (c : Nat) (f : Nat → Int32) : CS := fun c' => if c' = c then f else u c'
abbrev tysG (k : Nat → ClassId) : List (ClassId × FieldType) := [(k 0, .int), (k 1, .object RX3), (k 2, .char), (k 3, .boolean), (k 4, .object RX0)]
def SN : Nat → String := fun j => match j with
  | 0 => "LEAST_VALUES"
  | 1 => "MOST_VALUES"
  | _ => "FIRST_VALUES"
def SVi : Nat → Nat → Int32 := fun j i => match j, i with
  | 0, 0 => 1
  | 0, 1 => 1
  | 0, _ => 0
  | 1, 0 => 32
  | 1, 1 => 16
  | 1, 2 => 1
  | 1, _ => 50
  | _, 0 => 16
  | _, 1 => 4
  | _, 2 => 0
  | _, _ => 6
def va_Stat (A : Nat → Prop) (U : State) : Prop := ∀ j : Nat, j < 3 → ∃ t : Nat, va_Z RX4 (SN j) "[I" (.ref t) A U U.heap ∧ va_T .int t 4 (fun i => .int (SVi j i)) A U U.heap
def GE (A : Nat → Prop) (U : State) : Prop := (∀ w ∈ NWL, va_Nw w U) ∧ va_AO RX3 U ∧ va_AO RX0 U ∧ va_Stat A U
theorem GE.step {A A1 : Nat → Prop} {s U : State} {locs : List Loc} (h : GE A s) (hW : s.WarmedH U.vm) (hS : va_S A s.heap U.heap locs) (hA : ∀ q, A1 q → A q) : GE A1 U := by
  obtain ⟨h1, h2, h3, h4⟩ := h
  refine ⟨fun w hw => ?_, h2.moved hW.alike, h3.moved hW.alike, fun j hj => ?_⟩
  · have hn := (List.mem_filter.mp hw).2
    have hz := h1 w hw
    cases w <;> first | (exact va_Nw.warmF hW hz) | (exact va_Nw.warmM hW hz) | (simp [k_nest] at hn; done)
  · obtain ⟨t, hz, ht⟩ := h4 j hj
    exact ⟨t, ((hz.moved hW.alike).kept (fun a ha hn => hS.2.1 a ha hn)).narrow hA, ((ht.moved hW.alike).kept (fun a ha hn => hS.2.1 a ha hn)).narrow hA⟩
theorem GE.blind {A : Nat → Prop} {U : State} (h : GE A U) (g : JFrame) (mk : MethodId) (a : Array Value) : GE A (U.calling g mk a) := by
  obtain ⟨h1, h2, h3, h4⟩ := h
  refine ⟨fun w hw => ?_, h2.moved (Vm.Alike.refl U.vm), h3.moved (Vm.Alike.refl U.vm), fun j hj => ?_⟩
  · have hn := (List.mem_filter.mp hw).2
    have hz := h1 w hw
    cases w <;> first | (exact va_Nw.same rfl rfl hz) | (simp [k_nest] at hn; done)
  · obtain ⟨t, hz, ht⟩ := h4 j hj
    exact ⟨t, hz.moved (Vm.Alike.refl U.vm), ht.moved (Vm.Alike.refl U.vm)⟩
/-! worlds by membership and by order -/
theorem wP_iff {D : va_G} {cl : List vw_C} {ws : va_W} {H : Heap} : va_P D cl ws H ↔ ∀ q ∈ ws, va_at D cl q H :=
  ⟨fun h q hq => by obtain ⟨k, hk⟩ := List.mem_iff_getElem?.mp hq; exact h k q hk, fun h k q hk => h q (List.mem_of_getElem? hk)⟩
theorem wD_iff {A : Nat → Prop} {ws : va_W} : va_D A ws ↔ (ws.map (·.1)).Nodup ∧ ∀ q ∈ ws, A q.1 := by
  constructor
  · rintro ⟨h1, h2⟩
    refine ⟨?_, fun q hq => by obtain ⟨k, hk⟩ := List.mem_iff_getElem?.mp hq; exact h2 k q hk⟩
    rw [List.Nodup, List.pairwise_iff_getElem]
    intro i j hi hj hij he
    have hi' : i < ws.length := by simpa using hi
    have hj' : j < ws.length := by simpa using hj
    have := h1 i j ws[i] ws[j] (List.getElem?_eq_getElem hi') (List.getElem?_eq_getElem hj') (by simpa using he)
    omega
  · rintro ⟨h1, h2⟩
    refine ⟨fun i j p q hp hq he => ?_, fun k q hk => h2 q (List.mem_of_getElem? hk)⟩
    obtain ⟨hi, rfl⟩ := List.getElem?_eq_some_iff.mp hp
    obtain ⟨hj, rfl⟩ := List.getElem?_eq_some_iff.mp hq
    rw [List.Nodup, List.pairwise_iff_getElem] at h1
    rcases Nat.lt_trichotomy i j with h | h | h
    · exact absurd he (by have := h1 i j (by simpa using hi) (by simpa using hj) h; simpa using this)
    · exact h
    · exact absurd he.symm (by have := h1 j i (by simpa using hj) (by simpa using hi) h; simpa using this)
theorem wP_perm {D : va_G} {cl : List vw_C} {ws ws' : va_W} {H : Heap} (hp : ws.Perm ws') (h : va_P D cl ws H) : va_P D cl ws' H := wP_iff.mpr fun q hq => wP_iff.mp h q (hp.mem_iff.mpr hq)
theorem wD_perm {A : Nat → Prop} {ws ws' : va_W} (hp : ws.Perm ws') (h : va_D A ws) : va_D A ws' := by
  rw [wD_iff] at h ⊢
  exact ⟨((hp.map (·.1)).nodup_iff).mp h.1, fun q hq => h.2 q (hp.mem_iff.mpr hq)⟩
theorem w_idx {α : Type} {l l2 : List α} {n : Nat} (is : List Nat) (hl : l.length = n) (h1 : is.Perm (List.range n)) (h2 : is.map (fun i => l[i]?) = l2.map some) : l.Perm l2 := by
  subst hl
  have e1 : (List.range l.length).map (fun i => l[i]?) = l.map some := by
    apply List.ext_getElem?
    intro i
    by_cases h : i < l.length
    · simp [h]
    · simp [h]
  have e2 : (l.map some).Perm (l2.map some) := by
    rw [← e1, ← h2]
    exact (h1.map _).symm
  have e3 := e2.filterMap id
  simpa [List.filterMap_map] using e3
/-- the frame rule, by order -/
theorem w_frame {A : Nat → Prop} {D : va_G} {cl : List vw_C} {w w' wc wr w1 : va_W} {H H1 : Heap} (hP : va_P D cl w H) (hD : va_D A w) (hp : w.Perm (wr ++ wc)) (hp' : (wr ++ w1).Perm w')
    (hk : ∀ q : Nat, q < H.size → ¬ va_A wc H.size q → H1[q]? = H[q]?) (hF : ∀ q, va_A wc H.size q → A q) (hP1 : va_P D cl w1 H1) (hD1 : va_D (va_A wc H.size) w1) : va_P D cl w' H1 ∧ va_D A w' := by
  have hPw := wP_iff.mp (wP_perm hp hP)
  have hDw := wD_iff.mp (wD_perm hp hD)
  rw [List.map_append, List.nodup_append] at hDw
  obtain ⟨⟨hr, hc, hrc⟩, hA⟩ := hDw
  have hlt : ∀ q ∈ wr, q.1 < H.size := fun q hq => (hPw q (List.mem_append_left _ hq)).lt
  have hoff : ∀ q ∈ wr, ¬ va_A wc H.size q.1 := by
    rintro q hq (⟨k, e, hke⟩ | h)
    · exact hrc _ (List.mem_map_of_mem hq) _ (List.mem_map_of_mem (List.mem_of_getElem? hke)) rfl
    · exact absurd (hlt q hq) (Nat.not_lt.mpr h)
  refine ⟨wP_perm hp' (wP_iff.mpr fun q hq => ?_), wD_perm hp' (wD_iff.mpr ⟨?_, fun q hq => ?_⟩)⟩
  · rcases List.mem_append.mp hq with h | h
    · exact (hPw q (List.mem_append_left _ h)).kept (hk _ (hlt q h) (hoff q h))
    · exact wP_iff.mp hP1 q h
  · rw [List.map_append, List.nodup_append]
    refine ⟨hr, (wD_iff.mp hD1).1, ?_⟩
    intro a ha b hb e
    obtain ⟨q, hq, rfl⟩ := List.mem_map.mp ha
    obtain ⟨q2, hq2, rfl⟩ := List.mem_map.mp hb
    exact hoff q hq (e ▸ (wD_iff.mp hD1).2 q2 hq2)
  · rcases List.mem_append.mp hq with h | h
    · exact hA q (List.mem_append_left _ h)
    · exact hF _ ((wD_iff.mp hD1).2 q h)
theorem w_freeA {A : Nat → Prop} {w wc wr : va_W} {H0 H : Heap} {locs : List Loc} (hD : va_D A w) (hp : w.Perm (wr ++ wc)) (hS : va_S A H0 H locs) (hA : ∀ q, H0.size ≤ q → A q) : ∀ q, va_A wc H.size q → A q := by
  rintro q (⟨k, e, hke⟩ | h)
  · exact (wD_iff.mp (wD_perm hp hD)).2 _ (List.mem_append_right _ (List.mem_of_getElem? hke))
  · exact hA q (Nat.le_trans hS.1 h)
/-! contracts -/
abbrev rmD (d : Nat) : Room := { frames := d, cells := 0, slots := 0, locals := d * 35 }
def kPre (D : va_G) (k : Nat → ClassId) (w0 : va_W) (sz : Nat) (U : State) : Prop := U.heap.size = sz ∧ va_P D vwCl w0 U.heap ∧ va_K D vwCl (tysG k) U ∧ va_D (fun _ => True) w0 ∧ GE (va_A w0 sz) U
def kPost (D : va_G) (k : Nat → ClassId) (w0 w1 : va_W) (sz : Nat) (t : State) : Prop := va_P D vwCl w1 t.heap ∧ va_K D vwCl (tysG k) t ∧ va_D (va_A w0 sz) w1
/-- a method that answers the int r, and makes of the world w0 the world w1 -/
def mI (l : Launch) (y : MethodName) (ws : List Cond) (d : Nat) (D : va_G) (k : Nat → ClassId) (av : List Value) (w0 w1 : va_W) (r : Int32) : Prop := ∀ sz : Nat, Met l y ws (rmD d) (va_Pc av (kPre D k w0 sz)) (va_Qi (fun (r' : Int32) (_ : Unit) => r' = r) (fun _ => kPost D k w0 w1 sz) (va_A w0 sz)) 0 0 (va_A w0 sz)
/-- a method that answers nothing, and makes of the world w0 the world w1 -/
def mV (l : Launch) (y : MethodName) (ws : List Cond) (d : Nat) (D : va_G) (k : Nat → ClassId) (av : List Value) (w0 w1 : va_W) : Prop := ∀ sz : Nat, Met l y ws (rmD d) (va_Pc av (kPre D k w0 sz)) (va_Qv (fun (_ : Unit) => True) (fun _ => kPost D k w0 w1 sz) (va_A w0 sz)) 0 0 (va_A w0 sz)
def KX (p : Program) (s : State) (m : MethodId) (args : Array Value) (meth : Method) (c : Code) (cc : ByteArray) (nL : Nat) (Ts : List Cond) (own : String) (D : va_G) (k : Nat → ClassId) (A : Nat → Prop) : Prop :=
  p.tables.exec = Jvm.exec ∧ c.code = cc ∧ c.maxLocals = nL ∧ s.vm.findClass own = some m.cls ∧ (∀ w ∈ Ts, w.before args s = true) ∧ (∀ w ∈ GW, w ∈ Ts) ∧ meth.locks = false ∧ va_K D vwCl (tysG k) s ∧ GE A s ∧ (∀ q, s.heap.size ≤ q → A q)
def KW (D : va_G) (A : Nat → Prop) (s : State) (w : va_W) (H : Heap) (locs : List Loc) : Prop := va_P D vwCl w H ∧ va_D A w ∧ va_S A s.heap H locs
theorem KW.eq {D : va_G} {A : Nat → Prop} {s : State} {w w' : va_W} {H : Heap} {locs : List Loc} (h : KW D A s w H locs) (e : w = w') : KW D A s w' H locs := e ▸ h
theorem KW.perm {D : va_G} {A : Nat → Prop} {s : State} {w w' : va_W} {H : Heap} {locs : List Loc} (h : KW D A s w H locs) (e : w.Perm w') : KW D A s w' H locs := ⟨wP_perm e h.1, wD_perm e h.2.1, h.2.2⟩
theorem mI_intro {l : Launch} {y : MethodName} {cc : ByteArray} {nL d : Nat} {ret : Option FieldType} {D : va_G} {k : Nat → ClassId} {av : List Value} {w0 w1 : va_W} {r : Int32} (hy : plainName y.cls = true) (hn : (lg_sl av).length ≤ nL) (hr : ret = some .int ∨ (ret = some .boolean ∧ narrow .boolean (.int r) = .int r))
    (body : ∀ (p : Program) (e : Env) (s : State) (m : MethodId) (args : Array Value) (below : List Frame) (meth : Method) (c : Code) (A : Nat → Prop) (Q : State → Prop) (ls : Array Slot),
      KX p s m args meth c cc nL (wsY y cc nL ret) y.cls D k A → KW D A s w0 s.heap [] → lv_has ls nL (lv_args 0 av) →
      (∀ (w : va_W) (H : Heap) (locs : List Loc) (pc : Nat) (ls : Array Slot) (v : Int32), KW D A s w H locs → decode cc pc = .ok (.ireturn, 1) → v = r → w = w1 → W p l e (rmD d) s m args below meth c H locs 0 0 Q (F0 m pc ls [.int v])) →
      W p l e (rmD d) s m args below meth c s.heap [] 0 0 Q (F0 m 0 ls [])) :
    mI l y (wsY y cc nL ret) d D k av w0 w1 r := by
  intro sz
  refine Met.ofW (cc := cc) (maxL := nL) (ret := ret) hy rfl ?_
  intro p e s m args below meth c s₁ B hml hv
  obtain ⟨rfl, hsz, hP, hK, hD0, hG⟩ := hv
  subst hsz
  rw [lg_entry_eq]
  refine body p e s m _ below meth c (va_A w0 s.heap.size) _ _ ⟨B.exec, B.bytes, hml, findClass_of_methodNamed B.named, atoms_spec (ws := wsY y cc nL ret) B.pre, fun w hw => List.mem_cons_of_mem _ hw, B.notSynchronized, hK, hG, fun q h => Or.inr h⟩ ⟨hP, hD0.self, va_S.rf⟩ (lv_entry av hn) ?_
  rintro w H locs pc ls v ⟨hP, hD, hS⟩ hdg rfl rfl
  have hq : ∀ t : State, t.heap = H → s.WarmedH t.vm → va_Qi (fun (r' : Int32) (_ : Unit) => r' = v) (fun _ => kPost D k w0 w s.heap.size) (va_A w0 s.heap.size) av.toArray s (.returned (some (.int v))) t := fun t ht hW => ⟨⟨v, (), rfl, rfl, by rw [ht]; exact hP, va_K.moved hW.alike hK, hD⟩, hS.F ht⟩
  have hlocks := B.notSynchronized
  rcases hr with hr | ⟨hr, hnr⟩
  · exact W.iret B.exec B.bytes (B.returns.trans hr) hq hS.2.2 hdg hlocks
  · exact W.zret B.exec B.bytes (B.returns.trans hr) hnr hq hS.2.2 hdg hlocks
theorem mV_intro {l : Launch} {y : MethodName} {cc : ByteArray} {nL d : Nat} {D : va_G} {k : Nat → ClassId} {av : List Value} {w0 w1 : va_W} (hy : plainName y.cls = true) (hn : (lg_sl av).length ≤ nL)
    (body : ∀ (p : Program) (e : Env) (s : State) (m : MethodId) (args : Array Value) (below : List Frame) (meth : Method) (c : Code) (A : Nat → Prop) (Q : State → Prop) (ls : Array Slot),
      KX p s m args meth c cc nL (wsY y cc nL none) y.cls D k A → KW D A s w0 s.heap [] → lv_has ls nL (lv_args 0 av) →
      (∀ (w : va_W) (H : Heap) (locs : List Loc) (pc : Nat) (ls : Array Slot), KW D A s w H locs → decode cc pc = .ok (.return_, 1) → w = w1 → W p l e (rmD d) s m args below meth c H locs 0 0 Q (F0 m pc ls [])) →
      W p l e (rmD d) s m args below meth c s.heap [] 0 0 Q (F0 m 0 ls [])) :
    mV l y (wsY y cc nL none) d D k av w0 w1 := by
  intro sz
  refine Met.ofW (cc := cc) (maxL := nL) (ret := none) hy rfl ?_
  intro p e s m args below meth c s₁ B hml hv
  obtain ⟨rfl, hsz, hP, hK, hD0, hG⟩ := hv
  subst hsz
  rw [lg_entry_eq]
  refine body p e s m _ below meth c (va_A w0 s.heap.size) _ _ ⟨B.exec, B.bytes, hml, findClass_of_methodNamed B.named, atoms_spec (ws := wsY y cc nL none) B.pre, fun w hw => List.mem_cons_of_mem _ hw, B.notSynchronized, hK, hG, fun q h => Or.inr h⟩ ⟨hP, hD0.self, va_S.rf⟩ (lv_entry av hn) ?_
  rintro w H locs pc ls ⟨hP, hD, hS⟩ hdg rfl
  have hq : ∀ t : State, t.heap = H → s.WarmedH t.vm → va_Qv (fun (_ : Unit) => True) (fun _ => kPost D k w0 w s.heap.size) (va_A w0 s.heap.size) av.toArray s (.returned none) t := fun t ht hW => ⟨⟨(), rfl, trivial, by rw [ht]; exact hP, va_K.moved hW.alike hK, hD⟩, hS.F ht⟩
  have hlocks := B.notSynchronized
  exact W.vret B.exec B.bytes B.returns hq hS.2.2 hdg hlocks
end
section
/-! The rows: fields, arrays, calls, over one bundle of what stays (KX) and one of the world (KW) -/
section
variable {p : Program} {l : Launch} {e : Env} {R : Room} {s : State} {m : MethodId} {args : Array Value} {below : List Frame} {meth : Method} {c : Code} {H : Heap} {locs : List Loc} {cells slots : Nat} {Q : State → Prop} {cc : ByteArray} {nL : Nat} {Ts : List Cond} {own : String} {D : va_G} {k : Nat → ClassId} {A : Nat → Prop} {w w' : va_W} {pc : Nat} {ls : Array Slot} {rest : List Value} {a : Nat} {index : Nat}
theorem KX.hx (X : KX p s m args meth c cc nL Ts own D k A) : p.tables.exec = Jvm.exec := X.1
theorem KX.hb (X : KX p s m args meth c cc nL Ts own D k A) : c.code = cc := X.2.1
theorem KX.hml (X : KX p s m args meth c cc nL Ts own D k A) : c.maxLocals = nL := X.2.2.1
theorem KX.hown (X : KX p s m args meth c cc nL Ts own D k A) : s.vm.findClass own = some m.cls := X.2.2.2.1
theorem KX.hts (X : KX p s m args meth c cc nL Ts own D k A) : ∀ w ∈ Ts, w.before args s = true := X.2.2.2.2.1
theorem KX.hin (X : KX p s m args meth c cc nL Ts own D k A) : ∀ w ∈ GW, w ∈ Ts := X.2.2.2.2.2.1
theorem KX.hK (X : KX p s m args meth c cc nL Ts own D k A) : va_K D vwCl (tysG k) s := X.2.2.2.2.2.2.2.1
theorem KX.hG (X : KX p s m args meth c cc nL Ts own D k A) : GE A s := X.2.2.2.2.2.2.2.2.1
theorem KX.hA (X : KX p s m args meth c cc nL Ts own D k A) : ∀ q, s.heap.size ≤ q → A q := X.2.2.2.2.2.2.2.2.2
theorem KX.wd (X : KX p s m args meth c cc nL Ts own D k A) {q : Cond} (h : q ∈ GW) : q.before args s = true := X.hts q (X.hin q h)
theorem KX.nw (X : KX p s m args meth c cc nL Ts own D k A) {q : Cond} (h : q ∈ NWL) (ht : q.onTables = true) : q.before args s = true := (X.hG.1 q h).use ht
theorem k_get (X : KX p s m args meth c cc nL Ts own D k A) (hW : KW D A s w H locs) {C : String} {T : u_T} {N ci : Nat} (hg : ∀ q ∈ u_ws C T N, q ∈ GW) (hc : vwCl[ci]? = some (C, T, N)) (kf : Nat) (hk : kf < N) (hlink : Cond.fieldLink own index C (T kf).2.1 (T kf).2.2.1 ∈ GW) (hcl : (T kf).1 = C) (q0 : Nat) {fs : List Value} (he : w[q0]? = some (a, .inr (ci, fs))) {v : Value} (hv : fs[kf]? = some v) (hdg : decode cc pc = .ok (.getfield index, 3))
    (kk : W p l e R s m args below meth c H locs cells slots Q (F0 m (pc + 3) ls (v :: rest))) : W p l e R s m args below meth c H locs cells slots Q (F0 m pc ls (.ref a :: rest)) :=
  va_get X.hx X.hb X.hts (fun q h => X.hin q (hg q h)) X.hown X.hK hW.1 q0 he hc kf hk (X.wd hlink) (fun _ h => by rw [hcl] at h; exact h) hv hdg kk
theorem k_getN (X : KX p s m args meth c cc nL Ts own D k A) (hW : KW D A s w H locs) {C host : String} {T : u_T} {N ci : Nat} (hg : ∀ q ∈ u_ws C T N, q ∈ GW) (hc : vwCl[ci]? = some (C, T, N)) (kf : Nat) (hk : kf < N) (hlink : Cond.fieldLinkNest own index C (T kf).2.1 (T kf).2.2.1 host ∈ NWL) (hcl : (T kf).1 = C) (q0 : Nat) {fs : List Value} (he : w[q0]? = some (a, .inr (ci, fs))) {v : Value} (hv : fs[kf]? = some v) (hdg : decode cc pc = .ok (.getfield index, 3))
    (kk : W p l e R s m args below meth c H locs cells slots Q (F0 m (pc + 3) ls (v :: rest))) : W p l e R s m args below meth c H locs cells slots Q (F0 m pc ls (.ref a :: rest)) :=
  va_getN X.hx X.hb X.hts (fun q h => X.hin q (hg q h)) X.hown X.hK hW.1 q0 he hc kf hk (X.nw hlink rfl) (fun _ h => by rw [hcl] at h; exact h) hv hdg kk
theorem k_put (X : KX p s m args meth c cc nL Ts own D k A) (hW : KW D A s w H locs) {C : String} {T : u_T} {N ci : Nat} (hg : ∀ q ∈ u_ws C T N, q ∈ GW) (hc : vwCl[ci]? = some (C, T, N)) {ty0 : Nat → FieldType} (hty : ∀ j, j < N → parseFieldDescriptor (T j).2.2.1 = some (ty0 j)) (hnm : ∀ a, a < N → ∀ b, b < N → a ≠ b → (T a).2.1 ≠ (T b).2.1) (kf : Nat) (hk : kf < N) (hlink : Cond.fieldLink own index C (T kf).2.1 (T kf).2.2.1 ∈ GW) (hcl : (T kf).1 = C) (hfin : (T kf).2.2.2 = false) (q0 : Nat) {fs : List Value} (he : w[q0]? = some (a, .inr (ci, fs))) {v : Value} (hn : narrow (ty0 kf) v = v) (hfit : fits (ty0 kf) v = true) (hl : kf < fs.length) (hdg : decode cc pc = .ok (.putfield index, 3)) (hw' : w.set q0 (a, .inr (ci, fs.set kf v)) = w')
    (kk : ∀ (H1 : Heap) (locs1 : List Loc), KW D A s w' H1 locs1 → W p l e R s m args below meth c H1 locs1 cells slots Q (F0 m (pc + 3) ls rest)) : W p l e R s m args below meth c H locs cells slots Q (F0 m pc ls (v :: .ref a :: rest)) :=
  va_put X.hx X.hb X.hts (fun q h => X.hin q (hg q h)) ty0 hty hnm X.hown X.hK hW.1 hW.2.1 hW.2.2 q0 he hc kf hk (X.wd hlink) (fun _ h => by rw [hcl] at h; exact h) hfin (hty kf hk) hn hfit hl hdg (fun H1 locs1 h1 h2 h3 => kk H1 locs1 (by rw [hw'] at h1 h2; exact ⟨h1, h2, h3⟩))
theorem k_putN (X : KX p s m args meth c cc nL Ts own D k A) (hW : KW D A s w H locs) {C host : String} {T : u_T} {N ci : Nat} (hg : ∀ q ∈ u_ws C T N, q ∈ GW) (hc : vwCl[ci]? = some (C, T, N)) {ty0 : Nat → FieldType} (hty : ∀ j, j < N → parseFieldDescriptor (T j).2.2.1 = some (ty0 j)) (hnm : ∀ a, a < N → ∀ b, b < N → a ≠ b → (T a).2.1 ≠ (T b).2.1) (kf : Nat) (hk : kf < N) (hlink : Cond.fieldLinkNest own index C (T kf).2.1 (T kf).2.2.1 host ∈ NWL) (hcl : (T kf).1 = C) (hfin : (T kf).2.2.2 = false) (q0 : Nat) {fs : List Value} (he : w[q0]? = some (a, .inr (ci, fs))) {v : Value} (hn : narrow (ty0 kf) v = v) (hfit : fits (ty0 kf) v = true) (hl : kf < fs.length) (hdg : decode cc pc = .ok (.putfield index, 3)) (hw' : w.set q0 (a, .inr (ci, fs.set kf v)) = w')
    (kk : ∀ (H1 : Heap) (locs1 : List Loc), KW D A s w' H1 locs1 → W p l e R s m args below meth c H1 locs1 cells slots Q (F0 m (pc + 3) ls rest)) : W p l e R s m args below meth c H locs cells slots Q (F0 m pc ls (v :: .ref a :: rest)) :=
  va_putN X.hx X.hb X.hts (fun q h => X.hin q (hg q h)) ty0 hty hnm X.hown X.hK hW.1 hW.2.1 hW.2.2 q0 he hc kf hk (X.nw hlink rfl) (fun _ h => by rw [hcl] at h; exact h) hfin (hty kf hk) hn hfit hl hdg (fun H1 locs1 h1 h2 h3 => kk H1 locs1 (by rw [hw'] at h1 h2; exact ⟨h1, h2, h3⟩))
theorem k_in {i : Int32} {j n : Nat} (hi : i = nI j) (hj : j < n) (hn : n < 2 ^ 31) : vp_in i n ∧ i.toNatClampNeg = j := by
  subst hi; exact ⟨vp_in_nI hj hn, nI_clamp (by omega)⟩
theorem k_iald (X : KX p s m args meth c cc nL Ts own D k A) (hW : KW D A s w H locs) (q0 : Nat) {n : Nat} {f : Nat → Int32} (he : w[q0]? = some (a, .inl (k 0, n, .inl f))) {i v : Int32} {j : Nat} (hi : i = nI j) (hj : j < n) (hn : n < 2 ^ 31) (hv : f j = v) (hdg : decode cc pc = .ok (.iaload, 1))
    (kk : W p l e R s m args below meth c H locs cells slots Q (F0 m (pc + 1) ls (.int v :: rest))) : W p l e R s m args below meth c H locs cells slots Q (F0 m pc ls (.int i :: .ref a :: rest)) := by
  obtain ⟨h1, h2⟩ := k_in hi hj hn
  exact va_iald X.hx X.hb X.hK hW.1 q0 0 he rfl h1 hdg (by rw [h2, hv]; exact kk)
theorem k_cald (X : KX p s m args meth c cc nL Ts own D k A) (hW : KW D A s w H locs) (q0 : Nat) {n : Nat} {f : Nat → Int32} (he : w[q0]? = some (a, .inl (k 2, n, .inl f))) {i v : Int32} {j : Nat} (hi : i = nI j) (hj : j < n) (hn : n < 2 ^ 31) (hv : f j = v) (hdg : decode cc pc = .ok (.caload, 1))
    (kk : W p l e R s m args below meth c H locs cells slots Q (F0 m (pc + 1) ls (.int v :: rest))) : W p l e R s m args below meth c H locs cells slots Q (F0 m pc ls (.int i :: .ref a :: rest)) := by
  obtain ⟨h1, h2⟩ := k_in hi hj hn
  exact va_cald X.hx X.hb X.hK hW.1 q0 2 he rfl h1 hdg (by rw [h2, hv]; exact kk)
theorem k_zald (X : KX p s m args meth c cc nL Ts own D k A) (hW : KW D A s w H locs) (q0 : Nat) {n : Nat} {f : Nat → Int32} (he : w[q0]? = some (a, .inl (k 3, n, .inl f))) {i v : Int32} {j : Nat} (hi : i = nI j) (hj : j < n) (hn : n < 2 ^ 31) (hv : f j = v) (hdg : decode cc pc = .ok (.baload, 1))
    (kk : W p l e R s m args below meth c H locs cells slots Q (F0 m (pc + 1) ls (.int v :: rest))) : W p l e R s m args below meth c H locs cells slots Q (F0 m pc ls (.int i :: .ref a :: rest)) := by
  obtain ⟨h1, h2⟩ := k_in hi hj hn
  exact va_zald X.hx X.hb X.hK hW.1 q0 3 he rfl h1 hdg (by rw [h2, hv]; exact kk)
theorem k_aald (X : KX p s m args meth c cc nL Ts own D k A) (hW : KW D A s w H locs) (q0 t0 : Nat) {cA : ClassId} {C : String} {n : Nat} {f : Nat → Option Nat} (he : w[q0]? = some (a, .inl (cA, n, .inr (.inr (.inr (.inr f)))))) (ht : (tysG k)[t0]? = some (cA, .object C)) {i : Int32} {j b : Nat} (hi : i = nI j) (hj : j < n) (hn : n < 2 ^ 31) (hv : f j = some b) (hdg : decode cc pc = .ok (.aaload, 1))
    (kk : W p l e R s m args below meth c H locs cells slots Q (F0 m (pc + 1) ls (.ref b :: rest))) : W p l e R s m args below meth c H locs cells slots Q (F0 m pc ls (.int i :: .ref a :: rest)) := by
  obtain ⟨h1, h2⟩ := k_in hi hj hn
  exact va_aldq X.hx X.hb X.hK hW.1 q0 t0 he ht h1 hdg (by rw [h2, hv]; exact kk)
theorem k_iast (X : KX p s m args meth c cc nL Ts own D k A) (hW : KW D A s w H locs) (q0 : Nat) {n : Nat} {f : Nat → Int32} (he : w[q0]? = some (a, .inl (k 0, n, .inl f))) {i x : Int32} {j : Nat} (hi : i = nI j) (hj : j < n) (hn : n < 2 ^ 31) (hdg : decode cc pc = .ok (.iastore, 1)) (hw' : w.set q0 (a, .inl (k 0, n, .inl (upd f j x))) = w')
    (kk : ∀ (H1 : Heap) (locs1 : List Loc), KW D A s w' H1 locs1 → W p l e R s m args below meth c H1 locs1 cells slots Q (F0 m (pc + 1) ls rest)) : W p l e R s m args below meth c H locs cells slots Q (F0 m pc ls (.int x :: .int i :: .ref a :: rest)) := by
  obtain ⟨h1, h2⟩ := k_in hi hj hn
  exact va_iast X.hx X.hb X.hK hW.1 hW.2.1 hW.2.2 q0 0 he rfl h1 hdg (fun H1 locs1 g1 g2 g3 => kk H1 locs1 (by rw [h2, hw'] at g1 g2; exact ⟨g1, g2, g3⟩))
theorem k_cast (X : KX p s m args meth c cc nL Ts own D k A) (hW : KW D A s w H locs) (q0 : Nat) {n : Nat} {f : Nat → Int32} (he : w[q0]? = some (a, .inl (k 2, n, .inl f))) {i x x' : Int32} {j : Nat} (hi : i = nI j) (hj : j < n) (hn : n < 2 ^ 31) (hx : vp_nar .char x = x') (hdg : decode cc pc = .ok (.castore, 1)) (hw' : w.set q0 (a, .inl (k 2, n, .inl (upd f j x'))) = w')
    (kk : ∀ (H1 : Heap) (locs1 : List Loc), KW D A s w' H1 locs1 → W p l e R s m args below meth c H1 locs1 cells slots Q (F0 m (pc + 1) ls rest)) : W p l e R s m args below meth c H locs cells slots Q (F0 m pc ls (.int x :: .int i :: .ref a :: rest)) := by
  obtain ⟨h1, h2⟩ := k_in hi hj hn
  exact va_cast X.hx X.hb X.hK hW.1 hW.2.1 hW.2.2 q0 2 he rfl h1 hdg (fun H1 locs1 g1 g2 g3 => kk H1 locs1 (by rw [h2, hx, hw'] at g1 g2; exact ⟨g1, g2, g3⟩))
theorem k_zast (X : KX p s m args meth c cc nL Ts own D k A) (hW : KW D A s w H locs) (q0 : Nat) {n : Nat} {f : Nat → Int32} (he : w[q0]? = some (a, .inl (k 3, n, .inl f))) {i x x' : Int32} {j : Nat} (hi : i = nI j) (hj : j < n) (hn : n < 2 ^ 31) (hx : vp_nar .boolean x = x') (hdg : decode cc pc = .ok (.bastore, 1)) (hw' : w.set q0 (a, .inl (k 3, n, .inl (upd f j x'))) = w')
    (kk : ∀ (H1 : Heap) (locs1 : List Loc), KW D A s w' H1 locs1 → W p l e R s m args below meth c H1 locs1 cells slots Q (F0 m (pc + 1) ls rest)) : W p l e R s m args below meth c H locs cells slots Q (F0 m pc ls (.int x :: .int i :: .ref a :: rest)) := by
  obtain ⟨h1, h2⟩ := k_in hi hj hn
  exact va_zast X.hx X.hb X.hK hW.1 hW.2.1 hW.2.2 q0 3 he rfl h1 hdg (fun H1 locs1 g1 g2 g3 => kk H1 locs1 (by rw [h2, hx, hw'] at g1 g2; exact ⟨g1, g2, g3⟩))
theorem k_alen (X : KX p s m args meth c cc nL Ts own D k A) (hW : KW D A s w H locs) (q0 t0 : Nat) {cA : ClassId} {x : vp_A} (he : w[q0]? = some (a, .inl (cA, x))) {ty : FieldType} (ht : (tysG k)[t0]? = some (cA, ty)) {v : Int32} (hv : nI x.1 = v) (hdg : decode cc pc = .ok (.arraylength, 1))
    (kk : W p l e R s m args below meth c H locs cells slots Q (F0 m (pc + 1) ls (.int v :: rest))) : W p l e R s m args below meth c H locs cells slots Q (F0 m pc ls (.ref a :: rest)) :=
  va_alen X.hx X.hb X.hK hW.1 q0 t0 he ht hv hdg kk
theorem k_top {x y : Int32} (h : x = y) (kk : W p l e R s m args below meth c H locs cells slots Q (F0 m pc ls (.int y :: rest))) : W p l e R s m args below meth c H locs cells slots Q (F0 m pc ls (.int x :: rest)) := h ▸ kk
/-! a static array of four ints: its address, its length, its places -/
theorem k_gets (X : KX p s m args meth c cc nL Ts own D k A) (hW : KW D A s w H locs) (j : Nat) (hj : j < 3) (hlink : Cond.fieldLink own index RX4 (SN j) "[I" ∈ GW) (hdg : decode cc pc = .ok (.getstatic index, 3))
    (kk : ∀ t : Nat, va_T .int t 4 (fun i => .int (SVi j i)) A s s.heap → W p l e R s m args below meth c H locs cells slots Q (F0 m (pc + 3) ls (.ref t :: rest))) : W p l e R s m args below meth c H locs cells slots Q (F0 m pc ls rest) := by
  obtain ⟨t, hz, ht⟩ := X.hG.2.2.2 j hj
  exact va_gets X.hx X.hb hz hW.2.2 X.hown (X.wd hlink) (fun _ h => h) hdg (kk t ht)
theorem k_getsN (X : KX p s m args meth c cc nL Ts own D k A) (hW : KW D A s w H locs) {host : String} (j : Nat) (hj : j < 3) (hlink : Cond.fieldLinkNest own index RX4 (SN j) "[I" host ∈ NWL) (hdg : decode cc pc = .ok (.getstatic index, 3))
    (kk : ∀ t : Nat, va_T .int t 4 (fun i => .int (SVi j i)) A s s.heap → W p l e R s m args below meth c H locs cells slots Q (F0 m (pc + 3) ls (.ref t :: rest))) : W p l e R s m args below meth c H locs cells slots Q (F0 m pc ls rest) := by
  obtain ⟨t, hz, ht⟩ := X.hG.2.2.2 j hj
  exact va_getsN X.hx X.hb hz hW.2.2 X.hown (X.nw hlink rfl) (fun _ h => h) hdg (kk t ht)
theorem k_tld (X : KX p s m args meth c cc nL Ts own D k A) (hW : KW D A s w H locs) {t j : Nat} (hT : va_T .int t 4 (fun i => .int (SVi j i)) A s s.heap) {i v : Int32} {q : Nat} (hi : i = nI q) (hq : q < 4) (hv : SVi j q = v) (hdg : decode cc pc = .ok (.iaload, 1))
    (kk : W p l e R s m args below meth c H locs cells slots Q (F0 m (pc + 1) ls (.int v :: rest))) : W p l e R s m args below meth c H locs cells slots Q (F0 m pc ls (.int i :: .ref t :: rest)) := by
  obtain ⟨h1, h2⟩ := k_in hi hq (by decide)
  exact va_ti X.hx X.hb hT hW.2.2 h1 (v := .int v) (by simp only [h2, hv]) hdg kk
/-! calls -/
def kCall (p : Program) (l : Launch) (e : Env) (R : Room) (s : State) (m : MethodId) (args : Array Value) (below : List Frame) (meth : Method) (c : Code) (H : Heap) (locs : List Loc) (cells slots : Nat) (D : va_G) (k : Nat → ClassId) (pc : Nat) (ls : Array Slot) (st rest : List Value) (wc w1 : va_W) (r : Option Int32) : Prop :=
  match r with
  | some r => va_Run p l e R s m args below meth c H locs cells slots 0 0 (F0 m pc ls st) rest (va_Qi (fun (r' : Int32) (_ : Unit) => r' = r) (fun _ => kPost D k wc w1 H.size) (va_A wc H.size) #[]) (va_A wc H.size)
  | none => va_Run p l e R s m args below meth c H locs cells slots 0 0 (F0 m pc ls st) rest (va_Qv (fun (_ : Unit) => True) (fun _ => kPost D k wc w1 H.size) (va_A wc H.size) #[]) (va_A wc H.size)
theorem k_blind {D : va_G} {k : Nat → ClassId} {av : List Value} {w0 : va_W} {sz : Nat} : FrameBlind (va_Pc av (kPre D k w0 sz)) := fun a U g mk q => by
  obtain ⟨q0, q1, q2, q3, q4, q5⟩ := q
  exact ⟨q0, q1, q2, va_K.moved (u := U) (U := U.calling g mk a) (Vm.Alike.refl U.vm) q3, q4, q5.blind g mk a⟩
theorem k_pre {wc wr : va_W} (X : KX p s m args meth c cc nL Ts own D k A) (hW : KW D A s w H locs) (hp : w.Perm (wr ++ wc)) (av : List Value) : ∀ U : State, U.heap = H → s.WarmedH U.vm → va_Pc av (kPre D k wc H.size) av.toArray U := by
  intro U hU hwm
  have hP := wP_perm hp hW.1
  have hD := wD_iff.mp (wD_perm hp hW.2.1)
  have hPc : va_P D vwCl wc H := wP_iff.mpr fun q hq => wP_iff.mp hP q (List.mem_append_right _ hq)
  rw [List.map_append, List.nodup_append] at hD
  exact ⟨rfl, by rw [hU], by rw [hU]; exact hPc, va_K.moved hwm.alike X.hK, wD_iff.mpr ⟨hD.1.2.1, fun _ _ => trivial⟩, X.hG.step hwm (locs := locs) (by rw [hU]; exact hW.2.2) (w_freeA hW.2.1 hp hW.2.2 X.hA)⟩
theorem k_ci {wc w1 wr : va_W} {r : Int32} {st : List Value} (X : KX p s m args meth c cc nL Ts own D k A) (hW : KW D A s w H locs) (hp : w.Perm (wr ++ wc)) (hp' : (wr ++ w1).Perm w') (hr : kCall p l e R s m args below meth c H locs cells slots D k pc ls st rest wc w1 (some r))
    (kk : ∀ (H1 : Heap) (locs1 : List Loc), KW D A s w' H1 locs1 → W p l e R s m args below meth c H1 locs1 cells slots Q (F0 m (pc + 3) ls (.int r :: rest))) : W p l e R s m args below meth c H locs cells slots Q (F0 m pc ls st) := by
  have hF := w_freeA hW.2.1 hp hW.2.2 X.hA
  refine va_calli hr hW.2.2 (fun q _ h => hF q h) hF (fun r' u t H1 locs1 ht hvm hw hB hz1 hk1 hS1 => ?_)
  obtain ⟨hP1, -, hD1⟩ := hB
  rw [ht] at hP1
  obtain ⟨g1, g2⟩ := w_frame hW.1 hW.2.1 hp hp' hk1 hF hP1 hD1
  subst hw
  exact kk H1 locs1 ⟨g1, g2, hS1⟩
theorem k_cv {wc w1 wr : va_W} {st : List Value} (X : KX p s m args meth c cc nL Ts own D k A) (hW : KW D A s w H locs) (hp : w.Perm (wr ++ wc)) (hp' : (wr ++ w1).Perm w') (hr : kCall p l e R s m args below meth c H locs cells slots D k pc ls st rest wc w1 none)
    (kk : ∀ (H1 : Heap) (locs1 : List Loc), KW D A s w' H1 locs1 → W p l e R s m args below meth c H1 locs1 cells slots Q (F0 m (pc + 3) ls rest)) : W p l e R s m args below meth c H locs cells slots Q (F0 m pc ls st) := by
  have hF := w_freeA hW.2.1 hp hW.2.2 X.hA
  refine va_callv hr hW.2.2 (fun q _ h => hF q h) hF (fun u t H1 locs1 ht hvm hw hB hz1 hk1 hS1 => ?_)
  obtain ⟨hP1, -, hD1⟩ := hB
  rw [ht] at hP1
  obtain ⟨g1, g2⟩ := w_frame hW.1 hW.2.1 hp hp' hk1 hF hP1 hD1
  exact kk H1 locs1 ⟨g1, g2, hS1⟩
/-- the words of a method that stand in GW: its code, that it is an instance's, that it is what is selected, that its class is ready -/
def yV (y : MethodName) (cz : ByteArray) (nz : Nat) (rz : Option FieldType) (C : String) (n : Nat) : Prop := Cond.code y cz nz rz ∈ GW ∧ Cond.instanceMethod y ∈ GW ∧ Cond.selects C y y ∈ GW ∧ Cond.initialized C ∈ GW ∧ y.cls = C ∧ (y.cls ≠ "java/lang/invoke/MethodHandle" ∧ y.cls ≠ "java/lang/invoke/VarHandle" ∧ (parseMethodDescriptor y.desc).map (fun d => d.parameters.length) = some n)
def yS (y : MethodName) (cz : ByteArray) (nz : Nat) (rz : Option FieldType) (n : Nat) : Prop := Cond.code y cz nz rz ∈ GW ∧ Cond.static y ∈ GW ∧ Cond.initialized y.cls ∈ GW ∧ (y.cls ≠ "java/lang/invoke/MethodHandle" ∧ y.cls ≠ "java/lang/invoke/VarHandle" ∧ (parseMethodDescriptor y.desc).map (fun d => d.parameters.length) = some n)
variable {y : MethodName} {cz : ByteArray} {nz dz n : Nat} {rz : Option FieldType} {C : String} {wc w1 wr : va_W} {b : Nat} {As st : List Value} {r : Int32}
theorem k_cwB (X : KX p s m args meth c cc nL Ts own D k A) (hc : Cond.code y cz nz rz ∈ GW) (hi : Cond.initialized y.cls ∈ GW) (hd : y.cls ≠ "java/lang/invoke/MethodHandle" ∧ y.cls ≠ "java/lang/invoke/VarHandle" ∧ (parseMethodDescriptor y.desc).map (fun d => d.parameters.length) = some n) (hlink : Cond.methodLink own index y ∈ GW) (hR : dz + 1 ≤ R.frames ∧ 8 + (nz + 11) + dz * 35 ≤ R.locals) :
    CallB R s args own index y cz nz rz (wsY y cz nz rz) (rmD dz) 0 0 n := callB_of n X.hts (goodY X.hin hc) rfl rfl rfl (X.wd hi) (X.wd hlink) hd hR
theorem k_cwN {host : String} (X : KX p s m args meth c cc nL Ts own D k A) (hc : Cond.code y cz nz rz ∈ GW) (hi : Cond.initialized y.cls ∈ GW) (hd : y.cls ≠ "java/lang/invoke/MethodHandle" ∧ y.cls ≠ "java/lang/invoke/VarHandle" ∧ (parseMethodDescriptor y.desc).map (fun d => d.parameters.length) = some n) (hlink : Cond.methodLinkNest own index y host ∈ NWL) (hR : dz + 1 ≤ R.frames ∧ 8 + (nz + 11) + dz * 35 ≤ R.locals) :
    va_CN R s args own index y host cz nz rz (wsY y cz nz rz) (rmD dz) 0 0 n := va_cnB n X.hts (goodY X.hin hc) rfl rfl rfl (X.hG.1 _ hlink) (X.wd hi) hd hR
theorem k_rcv (X : KX p s m args meth c cc nL Ts own D k A) (hW : KW D A s w H locs) {ci q0 N : Nat} {T : u_T} {fs : List Value} (hc : vwCl[ci]? = some (C, T, N)) (he : w[q0]? = some (b, .inr (ci, fs))) : ∃ cell : Cell, H[b]? = some cell ∧ cell.vm.isStatics = false ∧ s.vm.findClass C = some cell.cls := va_recv X.hK hW.1 hc he
/-- an instance's method of the own class, an int comes back -/
theorem kVi (X : KX p s m args meth c cc nL Ts own D k A) (hW : KW D A s w H locs) (hM : mI l y (wsY y cz nz rz) dz D k (.ref b :: As) wc w1 r) (hY : yV y cz nz rz C n) (hlink : Cond.methodLink own index y ∈ GW) (hR : dz + 1 ≤ R.frames ∧ 8 + (nz + 11) + dz * 35 ≤ R.locals) (hp : w.Perm (wr ++ wc)) (hp' : (wr ++ w1).Perm w') (hrc : ∃ cell : Cell, H[b]? = some cell ∧ cell.vm.isStatics = false ∧ s.vm.findClass C = some cell.cls) (hn : As.length = n) (hsz : ls.size = nL) (hs : st = As.reverse ++ .ref b :: rest) (hroom : (rest.map fun v => v.category).sum ≤ 8) (hf : cells ≤ R.cells ∧ slots ≤ R.slots) (hdg : decode cc pc = .ok (.invokevirtual index, 3))
    (kk : ∀ (H1 : Heap) (locs1 : List Loc), KW D A s w' H1 locs1 → W p l e R s m args below meth c H1 locs1 cells slots Q (F0 m (pc + 3) ls (.int r :: rest))) : W p l e R s m args below meth c H locs cells slots Q (F0 m pc ls st) := by
  obtain ⟨h1, h2, h3, h4, rfl, h6⟩ := hY
  exact k_ci X hW hp hp' (va_runV (As := As) (rest := rest) ⟨X.hx, X.hb, X.hml, X.hown, X.hts⟩ (hM H.size) ⟨k_cwB X h1 h4 h6 hlink hR, X.wd h2, X.wd h3⟩ ⟨k_blind, hrc, k_pre X hW hp _⟩ rfl hn hsz hs (lv_room hroom) hdg hf) kk
theorem kVv (X : KX p s m args meth c cc nL Ts own D k A) (hW : KW D A s w H locs) (hM : mV l y (wsY y cz nz rz) dz D k (.ref b :: As) wc w1) (hY : yV y cz nz rz C n) (hlink : Cond.methodLink own index y ∈ GW) (hR : dz + 1 ≤ R.frames ∧ 8 + (nz + 11) + dz * 35 ≤ R.locals) (hp : w.Perm (wr ++ wc)) (hp' : (wr ++ w1).Perm w') (hrc : ∃ cell : Cell, H[b]? = some cell ∧ cell.vm.isStatics = false ∧ s.vm.findClass C = some cell.cls) (hn : As.length = n) (hsz : ls.size = nL) (hs : st = As.reverse ++ .ref b :: rest) (hroom : (rest.map fun v => v.category).sum ≤ 8) (hf : cells ≤ R.cells ∧ slots ≤ R.slots) (hdg : decode cc pc = .ok (.invokevirtual index, 3))
    (kk : ∀ (H1 : Heap) (locs1 : List Loc), KW D A s w' H1 locs1 → W p l e R s m args below meth c H1 locs1 cells slots Q (F0 m (pc + 3) ls rest)) : W p l e R s m args below meth c H locs cells slots Q (F0 m pc ls st) := by
  obtain ⟨h1, h2, h3, h4, rfl, h6⟩ := hY
  exact k_cv X hW hp hp' (va_runV (As := As) (rest := rest) ⟨X.hx, X.hb, X.hml, X.hown, X.hts⟩ (hM H.size) ⟨k_cwB X h1 h4 h6 hlink hR, X.wd h2, X.wd h3⟩ ⟨k_blind, hrc, k_pre X hW hp _⟩ rfl hn hsz hs (lv_room hroom) hdg hf) kk
theorem kNi {host : String} (X : KX p s m args meth c cc nL Ts own D k A) (hW : KW D A s w H locs) (hM : mI l y (wsY y cz nz rz) dz D k (.ref b :: As) wc w1 r) (hY : yV y cz nz rz C n) (hlink : Cond.methodLinkNest own index y host ∈ NWL) (hR : dz + 1 ≤ R.frames ∧ 8 + (nz + 11) + dz * 35 ≤ R.locals) (hp : w.Perm (wr ++ wc)) (hp' : (wr ++ w1).Perm w') (hrc : ∃ cell : Cell, H[b]? = some cell ∧ cell.vm.isStatics = false ∧ s.vm.findClass C = some cell.cls) (hn : As.length = n) (hsz : ls.size = nL) (hs : st = As.reverse ++ .ref b :: rest) (hroom : (rest.map fun v => v.category).sum ≤ 8) (hf : cells ≤ R.cells ∧ slots ≤ R.slots) (hdg : decode cc pc = .ok (.invokevirtual index, 3))
    (kk : ∀ (H1 : Heap) (locs1 : List Loc), KW D A s w' H1 locs1 → W p l e R s m args below meth c H1 locs1 cells slots Q (F0 m (pc + 3) ls (.int r :: rest))) : W p l e R s m args below meth c H locs cells slots Q (F0 m pc ls st) := by
  obtain ⟨h1, h2, h3, h4, rfl, h6⟩ := hY
  exact k_ci X hW hp hp' (va_runVN (As := As) (rest := rest) ⟨X.hx, X.hb, X.hml, X.hown, X.hts⟩ (hM H.size) ⟨k_cwN X h1 h4 h6 hlink hR, X.wd h2, X.wd h3⟩ ⟨k_blind, hrc, k_pre X hW hp _⟩ rfl hn hsz hs (lv_room hroom) hdg hf) kk
theorem kNv {host : String} (X : KX p s m args meth c cc nL Ts own D k A) (hW : KW D A s w H locs) (hM : mV l y (wsY y cz nz rz) dz D k (.ref b :: As) wc w1) (hY : yV y cz nz rz C n) (hlink : Cond.methodLinkNest own index y host ∈ NWL) (hR : dz + 1 ≤ R.frames ∧ 8 + (nz + 11) + dz * 35 ≤ R.locals) (hp : w.Perm (wr ++ wc)) (hp' : (wr ++ w1).Perm w') (hrc : ∃ cell : Cell, H[b]? = some cell ∧ cell.vm.isStatics = false ∧ s.vm.findClass C = some cell.cls) (hn : As.length = n) (hsz : ls.size = nL) (hs : st = As.reverse ++ .ref b :: rest) (hroom : (rest.map fun v => v.category).sum ≤ 8) (hf : cells ≤ R.cells ∧ slots ≤ R.slots) (hdg : decode cc pc = .ok (.invokevirtual index, 3))
    (kk : ∀ (H1 : Heap) (locs1 : List Loc), KW D A s w' H1 locs1 → W p l e R s m args below meth c H1 locs1 cells slots Q (F0 m (pc + 3) ls rest)) : W p l e R s m args below meth c H locs cells slots Q (F0 m pc ls st) := by
  obtain ⟨h1, h2, h3, h4, rfl, h6⟩ := hY
  exact k_cv X hW hp hp' (va_runVN (As := As) (rest := rest) ⟨X.hx, X.hb, X.hml, X.hown, X.hts⟩ (hM H.size) ⟨k_cwN X h1 h4 h6 hlink hR, X.wd h2, X.wd h3⟩ ⟨k_blind, hrc, k_pre X hW hp _⟩ rfl hn hsz hs (lv_room hroom) hdg hf) kk
/-- a static method (its contract speaks of no world), an int comes back -/
theorem kSi (X : KX p s m args meth c cc nL Ts own D k A) (hW : KW D A s w H locs) (hM : mI l y (wsY y cz nz rz) dz D k As [] [] r) (hY : yS y cz nz rz n) (hlink : Cond.methodLink own index y ∈ GW) (hR : dz + 1 ≤ R.frames ∧ 8 + (nz + 11) + dz * 35 ≤ R.locals) (hn : As.length = n) (hsz : ls.size = nL) (hs : st = As.reverse ++ rest) (hroom : (rest.map fun v => v.category).sum ≤ 8) (hf : cells ≤ R.cells ∧ slots ≤ R.slots) (hdg : decode cc pc = .ok (.invokestatic index, 3))
    (kk : ∀ (H1 : Heap) (locs1 : List Loc), KW D A s w H1 locs1 → W p l e R s m args below meth c H1 locs1 cells slots Q (F0 m (pc + 3) ls (.int r :: rest))) : W p l e R s m args below meth c H locs cells slots Q (F0 m pc ls st) := by
  obtain ⟨h1, h2, h4, h6⟩ := hY
  exact k_ci X hW (wr := w) (by simp) (by simp) (va_runS (As := As) (rest := rest) ⟨X.hx, X.hb, X.hml, X.hown, X.hts⟩ (hM H.size) ⟨k_cwB X h1 h4 h6 hlink hR, X.wd h2⟩ ⟨k_blind, k_pre X hW (wr := w) (by simp) _⟩ rfl hn hsz hs (lv_room hroom) hdg hf) kk
theorem kSNi {host : String} (X : KX p s m args meth c cc nL Ts own D k A) (hW : KW D A s w H locs) (hM : mI l y (wsY y cz nz rz) dz D k As [] [] r) (hY : yS y cz nz rz n) (hlink : Cond.methodLinkNest own index y host ∈ NWL) (hR : dz + 1 ≤ R.frames ∧ 8 + (nz + 11) + dz * 35 ≤ R.locals) (hn : As.length = n) (hsz : ls.size = nL) (hs : st = As.reverse ++ rest) (hroom : (rest.map fun v => v.category).sum ≤ 8) (hf : cells ≤ R.cells ∧ slots ≤ R.slots) (hdg : decode cc pc = .ok (.invokestatic index, 3))
    (kk : ∀ (H1 : Heap) (locs1 : List Loc), KW D A s w H1 locs1 → W p l e R s m args below meth c H1 locs1 cells slots Q (F0 m (pc + 3) ls (.int r :: rest))) : W p l e R s m args below meth c H locs cells slots Q (F0 m pc ls st) := by
  obtain ⟨h1, h2, h4, h6⟩ := hY
  exact k_ci X hW (wr := w) (by simp) (by simp) (va_runSN (As := As) (rest := rest) ⟨X.hx, X.hb, X.hml, X.hown, X.hts⟩ (hM H.size) ⟨k_cwN X h1 h4 h6 hlink hR, X.wd h2, trivial⟩ ⟨k_blind, k_pre X hW (wr := w) (by simp) _⟩ rfl hn hsz hs (lv_room hroom) hdg hf) kk
end
end
section
theorem inG0 : ∀ q ∈ u_ws RX0 TX0 8, q ∈ GW := by
  intro q hq
  obtain ⟨j, hj, rfl⟩ := List.mem_map.mp hq
  have hj := List.mem_range.mp hj
  match j, hj with
  | 0, _ => exact gwm 177 (by decide +kernel) (by decide +kernel)
  | 1, _ => exact gwm 179 (by decide +kernel) (by decide +kernel)
  | 2, _ => exact gwm 181 (by decide +kernel) (by decide +kernel)
  | 3, _ => exact gwm 183 (by decide +kernel) (by decide +kernel)
  | 4, _ => exact gwm 185 (by decide +kernel) (by decide +kernel)
  | 5, _ => exact gwm 187 (by decide +kernel) (by decide +kernel)
  | 6, _ => exact gwm 189 (by decide +kernel) (by decide +kernel)
  | 7, _ => exact gwm 191 (by decide +kernel) (by decide +kernel)
theorem inG1 : ∀ q ∈ u_ws RX1 TX1 3, q ∈ GW := by
  intro q hq
  obtain ⟨j, hj, rfl⟩ := List.mem_map.mp hq
  have hj := List.mem_range.mp hj
  match j, hj with
  | 0, _ => exact gwm 207 (by decide +kernel) (by decide +kernel)
  | 1, _ => exact gwm 209 (by decide +kernel) (by decide +kernel)
  | 2, _ => exact gwm 211 (by decide +kernel) (by decide +kernel)
theorem inG2 : ∀ q ∈ u_ws RX2 TX2 9, q ∈ GW := by
  intro q hq
  obtain ⟨j, hj, rfl⟩ := List.mem_map.mp hq
  have hj := List.mem_range.mp hj
  match j, hj with
  | 0, _ => exact gwm 236 (by decide +kernel) (by decide +kernel)
  | 1, _ => exact gwm 238 (by decide +kernel) (by decide +kernel)
  | 2, _ => exact gwm 240 (by decide +kernel) (by decide +kernel)
  | 3, _ => exact gwm 242 (by decide +kernel) (by decide +kernel)
  | 4, _ => exact gwm 244 (by decide +kernel) (by decide +kernel)
  | 5, _ => exact gwm 246 (by decide +kernel) (by decide +kernel)
  | 6, _ => exact gwm 248 (by decide +kernel) (by decide +kernel)
  | 7, _ => exact gwm 250 (by decide +kernel) (by decide +kernel)
  | 8, _ => exact gwm 252 (by decide +kernel) (by decide +kernel)
theorem inG3 : ∀ q ∈ u_ws RX3 TX3 13, q ∈ GW := by
  intro q hq
  obtain ⟨j, hj, rfl⟩ := List.mem_map.mp hq
  have hj := List.mem_range.mp hj
  match j, hj with
  | 0, _ => exact gwm 136 (by decide +kernel) (by decide +kernel)
  | 1, _ => exact gwm 138 (by decide +kernel) (by decide +kernel)
  | 2, _ => exact gwm 140 (by decide +kernel) (by decide +kernel)
  | 3, _ => exact gwm 142 (by decide +kernel) (by decide +kernel)
  | 4, _ => exact gwm 144 (by decide +kernel) (by decide +kernel)
  | 5, _ => exact gwm 146 (by decide +kernel) (by decide +kernel)
  | 6, _ => exact gwm 148 (by decide +kernel) (by decide +kernel)
  | 7, _ => exact gwm 150 (by decide +kernel) (by decide +kernel)
  | 8, _ => exact gwm 152 (by decide +kernel) (by decide +kernel)
  | 9, _ => exact gwm 154 (by decide +kernel) (by decide +kernel)
  | 10, _ => exact gwm 156 (by decide +kernel) (by decide +kernel)
  | 11, _ => exact gwm 158 (by decide +kernel) (by decide +kernel)
  | 12, _ => exact gwm 160 (by decide +kernel) (by decide +kernel)
theorem inG4 : ∀ q ∈ u_ws RX4 TX4 6, q ∈ GW := by
  intro q hq
  obtain ⟨j, hj, rfl⟩ := List.mem_map.mp hq
  have hj := List.mem_range.mp hj
  match j, hj with
  | 0, _ => exact gwm 262 (by decide +kernel) (by decide +kernel)
  | 1, _ => exact gwm 264 (by decide +kernel) (by decide +kernel)
  | 2, _ => exact gwm 266 (by decide +kernel) (by decide +kernel)
  | 3, _ => exact gwm 268 (by decide +kernel) (by decide +kernel)
  | 4, _ => exact gwm 270 (by decide +kernel) (by decide +kernel)
  | 5, _ => exact gwm 272 (by decide +kernel) (by decide +kernel)
theorem inG5 : ∀ q ∈ u_ws RX5 TX5 11, q ∈ GW := by
  intro q hq
  obtain ⟨j, hj, rfl⟩ := List.mem_map.mp hq
  have hj := List.mem_range.mp hj
  match j, hj with
  | 0, _ => exact gwm 594 (by decide +kernel) (by decide +kernel)
  | 1, _ => exact gwm 596 (by decide +kernel) (by decide +kernel)
  | 2, _ => exact gwm 598 (by decide +kernel) (by decide +kernel)
  | 3, _ => exact gwm 600 (by decide +kernel) (by decide +kernel)
  | 4, _ => exact gwm 602 (by decide +kernel) (by decide +kernel)
  | 5, _ => exact gwm 604 (by decide +kernel) (by decide +kernel)
  | 6, _ => exact gwm 606 (by decide +kernel) (by decide +kernel)
  | 7, _ => exact gwm 608 (by decide +kernel) (by decide +kernel)
  | 8, _ => exact gwm 610 (by decide +kernel) (by decide +kernel)
  | 9, _ => exact gwm 612 (by decide +kernel) (by decide +kernel)
  | 10, _ => exact gwm 614 (by decide +kernel) (by decide +kernel)
theorem yi_X0_init : Cond.code yX0_init cX0_init 2 none ∈ GW ∧ Cond.instanceMethod yX0_init ∈ GW ∧ Cond.initialized RX0 ∈ GW := ⟨gwm 97 (by decide +kernel) (by decide +kernel), gwm 96 (by decide +kernel) (by decide +kernel), gwm 78 (by decide +kernel) (by decide +kernel)⟩
theorem yw_X0_copyFrom : yV yX0_copyFrom cX0_copyFrom 3 none RX0 1 := ⟨gwm 286 (by decide +kernel) (by decide +kernel), gwm 285 (by decide +kernel) (by decide +kernel), gwm 1 (by decide +kernel) (by decide +kernel), gwm 78 (by decide +kernel) (by decide +kernel), rfl, by decide +kernel⟩
theorem yw_X0_emptyLike : yV yX0_emptyLike cX0_emptyLike 3 none RX0 1 := ⟨gwm 473 (by decide +kernel) (by decide +kernel), gwm 472 (by decide +kernel) (by decide +kernel), gwm 29 (by decide +kernel) (by decide +kernel), gwm 78 (by decide +kernel) (by decide +kernel), rfl, by decide +kernel⟩
theorem yw_X0_changeSetting : yV yX0_changeSetting cX0_changeSetting 4 (some .int) RX0 2 := ⟨gwm 294 (by decide +kernel) (by decide +kernel), gwm 293 (by decide +kernel) (by decide +kernel), gwm 3 (by decide +kernel) (by decide +kernel), gwm 78 (by decide +kernel) (by decide +kernel), rfl, by decide +kernel⟩
theorem yw_X0_changeBounds : yV yX0_changeBounds cX0_changeBounds 6 (some .int) RX0 3 := ⟨gwm 313 (by decide +kernel) (by decide +kernel), gwm 312 (by decide +kernel) (by decide +kernel), gwm 5 (by decide +kernel) (by decide +kernel), gwm 78 (by decide +kernel) (by decide +kernel), rfl, by decide +kernel⟩
theorem yw_X0_receive : yV yX0_receive cX0_receive 4 (some .int) RX0 1 := ⟨gwm 324 (by decide +kernel) (by decide +kernel), gwm 323 (by decide +kernel) (by decide +kernel), gwm 6 (by decide +kernel) (by decide +kernel), gwm 78 (by decide +kernel) (by decide +kernel), rfl, by decide +kernel⟩
theorem yw_X0_changeMask : yV yX0_changeMask cX0_changeMask 3 (some .int) RX0 1 := ⟨gwm 332 (by decide +kernel) (by decide +kernel), gwm 331 (by decide +kernel) (by decide +kernel), gwm 7 (by decide +kernel) (by decide +kernel), gwm 78 (by decide +kernel) (by decide +kernel), rfl, by decide +kernel⟩
theorem yw_X0_callByHand : yV yX0_callByHand cX0_callByHand 3 (some .int) RX0 1 := ⟨gwm 340 (by decide +kernel) (by decide +kernel), gwm 339 (by decide +kernel) (by decide +kernel), gwm 8 (by decide +kernel) (by decide +kernel), gwm 78 (by decide +kernel) (by decide +kernel), rfl, by decide +kernel⟩
theorem yw_X0_passTicks : yV yX0_passTicks cX0_passTicks 2 (some .int) RX0 1 := ⟨gwm 360 (by decide +kernel) (by decide +kernel), gwm 359 (by decide +kernel) (by decide +kernel), gwm 12 (by decide +kernel) (by decide +kernel), gwm 78 (by decide +kernel) (by decide +kernel), rfl, by decide +kernel⟩
theorem yw_X0_runTicks : yV yX0_runTicks cX0_runTicks 4 (some .int) RX0 1 := ⟨gwm 364 (by decide +kernel) (by decide +kernel), gwm 363 (by decide +kernel) (by decide +kernel), gwm 13 (by decide +kernel) (by decide +kernel), gwm 78 (by decide +kernel) (by decide +kernel), rfl, by decide +kernel⟩
theorem yw_X0_tick : yV yX0_tick cX0_tick 3 (some .int) RX0 0 := ⟨gwm 368 (by decide +kernel) (by decide +kernel), gwm 367 (by decide +kernel) (by decide +kernel), gwm 14 (by decide +kernel) (by decide +kernel), gwm 78 (by decide +kernel) (by decide +kernel), rfl, by decide +kernel⟩
theorem yw_X0_poll : yV yX0_poll cX0_poll 4 (some .int) RX0 0 := ⟨gwm 372 (by decide +kernel) (by decide +kernel), gwm 371 (by decide +kernel) (by decide +kernel), gwm 15 (by decide +kernel) (by decide +kernel), gwm 78 (by decide +kernel) (by decide +kernel), rfl, by decide +kernel⟩
theorem yw_X0_takeOldest : yV yX0_takeOldest cX0_takeOldest 5 none RX0 2 := ⟨gwm 384 (by decide +kernel) (by decide +kernel), gwm 383 (by decide +kernel) (by decide +kernel), gwm 18 (by decide +kernel) (by decide +kernel), gwm 78 (by decide +kernel) (by decide +kernel), rfl, by decide +kernel⟩
theorem yw_X0_whySilent : yV yX0_whySilent cX0_whySilent 4 (some .int) RX0 1 := ⟨gwm 404 (by decide +kernel) (by decide +kernel), gwm 403 (by decide +kernel) (by decide +kernel), gwm 22 (by decide +kernel) (by decide +kernel), gwm 78 (by decide +kernel) (by decide +kernel), rfl, by decide +kernel⟩
theorem yw_X0_enterRow : yV yX0_enterRow cX0_enterRow 2 none RX0 1 := ⟨gwm 348 (by decide +kernel) (by decide +kernel), gwm 347 (by decide +kernel) (by decide +kernel), gwm 10 (by decide +kernel) (by decide +kernel), gwm 78 (by decide +kernel) (by decide +kernel), rfl, by decide +kernel⟩
theorem yw_X0_leaveRow : yV yX0_leaveRow cX0_leaveRow 6 none RX0 1 := ⟨gwm 395 (by decide +kernel) (by decide +kernel), gwm 394 (by decide +kernel) (by decide +kernel), gwm 20 (by decide +kernel) (by decide +kernel), gwm 78 (by decide +kernel) (by decide +kernel), rfl, by decide +kernel⟩
theorem yw_X0_rowLength : yV yX0_rowLength cX0_rowLength 6 (some .int) RX0 0 := ⟨gwm 352 (by decide +kernel) (by decide +kernel), gwm 351 (by decide +kernel) (by decide +kernel), gwm 11 (by decide +kernel) (by decide +kernel), gwm 78 (by decide +kernel) (by decide +kernel), rfl, by decide +kernel⟩
theorem yw_X0_queueAt : yV yX0_queueAt cX0_queueAt 3 (some .int) RX0 1 := ⟨gwm 376 (by decide +kernel) (by decide +kernel), gwm 375 (by decide +kernel) (by decide +kernel), gwm 16 (by decide +kernel) (by decide +kernel), gwm 78 (by decide +kernel) (by decide +kernel), rfl, by decide +kernel⟩
theorem yw_X0_hasFrame : yV yX0_hasFrame cX0_hasFrame 2 (some .boolean) RX0 1 := ⟨gwm 380 (by decide +kernel) (by decide +kernel), gwm 379 (by decide +kernel) (by decide +kernel), gwm 17 (by decide +kernel) (by decide +kernel), gwm 78 (by decide +kernel) (by decide +kernel), rfl, by decide +kernel⟩
theorem yw_X0_frameFact : yV yX0_frameFact cX0_frameFact 3 (some .int) RX0 2 := ⟨gwm 423 (by decide +kernel) (by decide +kernel), gwm 422 (by decide +kernel) (by decide +kernel), gwm 24 (by decide +kernel) (by decide +kernel), gwm 78 (by decide +kernel) (by decide +kernel), rfl, by decide +kernel⟩
theorem yw_X0_waitOf : yV yX0_waitOf cX0_waitOf 3 (some .int) RX0 1 := ⟨gwm 427 (by decide +kernel) (by decide +kernel), gwm 426 (by decide +kernel) (by decide +kernel), gwm 25 (by decide +kernel) (by decide +kernel), gwm 78 (by decide +kernel) (by decide +kernel), rfl, by decide +kernel⟩
theorem yw_X0_total : yV yX0_total cX0_total 7 (some .int) RX0 1 := ⟨gwm 440 (by decide +kernel) (by decide +kernel), gwm 439 (by decide +kernel) (by decide +kernel), gwm 26 (by decide +kernel) (by decide +kernel), gwm 78 (by decide +kernel) (by decide +kernel), rfl, by decide +kernel⟩
theorem yw_X0_maskedSet : yV yX0_maskedSet cX0_maskedSet 3 (some .int) RX0 0 := ⟨gwm 445 (by decide +kernel) (by decide +kernel), gwm 444 (by decide +kernel) (by decide +kernel), gwm 27 (by decide +kernel) (by decide +kernel), gwm 78 (by decide +kernel) (by decide +kernel), rfl, by decide +kernel⟩
theorem yi_X1_init : Cond.code yX1_init cX1_init 2 none ∈ GW ∧ Cond.instanceMethod yX1_init ∈ GW ∧ Cond.initialized RX1 ∈ GW := ⟨gwm 199 (by decide +kernel) (by decide +kernel), gwm 198 (by decide +kernel) (by decide +kernel), gwm 81 (by decide +kernel) (by decide +kernel)⟩
theorem yw_X1_prepare : yV yX1_prepare cX1_prepare 2 none RX1 1 := ⟨gwm 282 (by decide +kernel) (by decide +kernel), gwm 281 (by decide +kernel) (by decide +kernel), gwm 0 (by decide +kernel) (by decide +kernel), gwm 81 (by decide +kernel) (by decide +kernel), rfl, by decide +kernel⟩
theorem yw_X1_keepIfDone : yV yX1_keepIfDone cX1_keepIfDone 2 (some .int) RX1 1 := ⟨gwm 302 (by decide +kernel) (by decide +kernel), gwm 301 (by decide +kernel) (by decide +kernel), gwm 4 (by decide +kernel) (by decide +kernel), gwm 81 (by decide +kernel) (by decide +kernel), rfl, by decide +kernel⟩
theorem yw_X1_goBack : yV yX1_goBack cX1_goBack 2 (some .int) RX1 1 := ⟨gwm 561 (by decide +kernel) (by decide +kernel), gwm 560 (by decide +kernel) (by decide +kernel), gwm 44 (by decide +kernel) (by decide +kernel), gwm 81 (by decide +kernel) (by decide +kernel), rfl, by decide +kernel⟩
theorem yi_X2_init : Cond.code yX2_init cX2_init 1 none ∈ GW ∧ Cond.instanceMethod yX2_init ∈ GW ∧ Cond.initialized RX2 ∈ GW := ⟨gwm 219 (by decide +kernel) (by decide +kernel), gwm 218 (by decide +kernel) (by decide +kernel), gwm 82 (by decide +kernel) (by decide +kernel)⟩
theorem yw_X2_append : yV yX2_append cX2_append 5 (some .int) RX2 1 := ⟨gwm 485 (by decide +kernel) (by decide +kernel), gwm 484 (by decide +kernel) (by decide +kernel), gwm 31 (by decide +kernel) (by decide +kernel), gwm 82 (by decide +kernel) (by decide +kernel), rfl, by decide +kernel⟩
theorem yw_X2_sizeOf : yS yX2_sizeOf cX2_sizeOf 7 (some .int) 1 := ⟨gwm 488 (by decide +kernel) (by decide +kernel), gwm 487 (by decide +kernel) (by decide +kernel), gwm 82 (by decide +kernel) (by decide +kernel), by decide +kernel⟩
theorem yw_X2_clear : yV yX2_clear cX2_clear 2 (some .int) RX2 0 := ⟨gwm 499 (by decide +kernel) (by decide +kernel), gwm 498 (by decide +kernel) (by decide +kernel), gwm 32 (by decide +kernel) (by decide +kernel), gwm 82 (by decide +kernel) (by decide +kernel), rfl, by decide +kernel⟩
theorem yw_X2_firstFault : yV yX2_firstFault cX2_firstFault 3 (some .int) RX2 0 := ⟨gwm 507 (by decide +kernel) (by decide +kernel), gwm 506 (by decide +kernel) (by decide +kernel), gwm 33 (by decide +kernel) (by decide +kernel), gwm 82 (by decide +kernel) (by decide +kernel), rfl, by decide +kernel⟩
theorem yw_X2_startReading : yV yX2_startReading cX2_startReading 1 none RX2 0 := ⟨gwm 511 (by decide +kernel) (by decide +kernel), gwm 510 (by decide +kernel) (by decide +kernel), gwm 34 (by decide +kernel) (by decide +kernel), gwm 82 (by decide +kernel) (by decide +kernel), rfl, by decide +kernel⟩
theorem yw_X2_readOrder : yV yX2_readOrder cX2_readOrder 1 (some .boolean) RX2 0 := ⟨gwm 515 (by decide +kernel) (by decide +kernel), gwm 514 (by decide +kernel) (by decide +kernel), gwm 35 (by decide +kernel) (by decide +kernel), gwm 82 (by decide +kernel) (by decide +kernel), rfl, by decide +kernel⟩
theorem yw_X2_readFrames : yV yX2_readFrames cX2_readFrames 1 none RX2 0 := ⟨gwm 523 (by decide +kernel) (by decide +kernel), gwm 522 (by decide +kernel) (by decide +kernel), gwm 37 (by decide +kernel) (by decide +kernel), gwm 82 (by decide +kernel) (by decide +kernel), rfl, by decide +kernel⟩
theorem yw_X2_readBounds : yV yX2_readBounds cX2_readBounds 1 none RX2 0 := ⟨gwm 539 (by decide +kernel) (by decide +kernel), gwm 538 (by decide +kernel) (by decide +kernel), gwm 41 (by decide +kernel) (by decide +kernel), gwm 82 (by decide +kernel) (by decide +kernel), rfl, by decide +kernel⟩
theorem yw_X2_readNumber : yV yX2_readNumber cX2_readNumber 2 (some .int) RX2 0 := ⟨gwm 527 (by decide +kernel) (by decide +kernel), gwm 526 (by decide +kernel) (by decide +kernel), gwm 38 (by decide +kernel) (by decide +kernel), gwm 82 (by decide +kernel) (by decide +kernel), rfl, by decide +kernel⟩
theorem yw_X2_readDigit : yV yX2_readDigit cX2_readDigit 2 (some .int) RX2 0 := ⟨gwm 531 (by decide +kernel) (by decide +kernel), gwm 530 (by decide +kernel) (by decide +kernel), gwm 39 (by decide +kernel) (by decide +kernel), gwm 82 (by decide +kernel) (by decide +kernel), rfl, by decide +kernel⟩
theorem yw_X2_demand : yV yX2_demand cX2_demand 2 none RX2 1 := ⟨gwm 543 (by decide +kernel) (by decide +kernel), gwm 542 (by decide +kernel) (by decide +kernel), gwm 42 (by decide +kernel) (by decide +kernel), gwm 82 (by decide +kernel) (by decide +kernel), rfl, by decide +kernel⟩
theorem yw_X2_readSign : yV yX2_readSign cX2_readSign 2 (some .boolean) RX2 1 := ⟨gwm 519 (by decide +kernel) (by decide +kernel), gwm 518 (by decide +kernel) (by decide +kernel), gwm 36 (by decide +kernel) (by decide +kernel), gwm 82 (by decide +kernel) (by decide +kernel), rfl, by decide +kernel⟩
theorem yw_X2_digitStands : yV yX2_digitStands cX2_digitStands 1 (some .boolean) RX2 0 := ⟨gwm 535 (by decide +kernel) (by decide +kernel), gwm 534 (by decide +kernel) (by decide +kernel), gwm 40 (by decide +kernel) (by decide +kernel), gwm 82 (by decide +kernel) (by decide +kernel), rfl, by decide +kernel⟩
theorem yi_X3_init : Cond.code yX3_init cX3_init 1 none ∈ GW ∧ Cond.instanceMethod yX3_init ∈ GW ∧ Cond.initialized RX3 ∈ GW := ⟨gwm 109 (by decide +kernel) (by decide +kernel), gwm 108 (by decide +kernel) (by decide +kernel), gwm 80 (by decide +kernel) (by decide +kernel)⟩
theorem yw_X3_copyFrom : yV yX3_copyFrom cX3_copyFrom 2 none RX3 1 := ⟨gwm 290 (by decide +kernel) (by decide +kernel), gwm 289 (by decide +kernel) (by decide +kernel), gwm 2 (by decide +kernel) (by decide +kernel), gwm 80 (by decide +kernel) (by decide +kernel), rfl, by decide +kernel⟩
theorem yw_X3_emptyLike : yV yX3_emptyLike cX3_emptyLike 2 none RX3 1 := ⟨gwm 477 (by decide +kernel) (by decide +kernel), gwm 476 (by decide +kernel) (by decide +kernel), gwm 30 (by decide +kernel) (by decide +kernel), gwm 80 (by decide +kernel) (by decide +kernel), rfl, by decide +kernel⟩
theorem yw_X3_isCalled : yV yX3_isCalled cX3_isCalled 1 (some .boolean) RX3 0 := ⟨gwm 344 (by decide +kernel) (by decide +kernel), gwm 343 (by decide +kernel) (by decide +kernel), gwm 9 (by decide +kernel) (by decide +kernel), gwm 80 (by decide +kernel) (by decide +kernel), rfl, by decide +kernel⟩
theorem yw_X3_noteTaken : yV yX3_noteTaken cX3_noteTaken 2 none RX3 1 := ⟨gwm 388 (by decide +kernel) (by decide +kernel), gwm 387 (by decide +kernel) (by decide +kernel), gwm 19 (by decide +kernel) (by decide +kernel), gwm 80 (by decide +kernel) (by decide +kernel), rfl, by decide +kernel⟩
theorem yw_X3_becomeIdle : yV yX3_becomeIdle cX3_becomeIdle 2 none RX3 1 := ⟨gwm 399 (by decide +kernel) (by decide +kernel), gwm 398 (by decide +kernel) (by decide +kernel), gwm 21 (by decide +kernel) (by decide +kernel), gwm 80 (by decide +kernel) (by decide +kernel), rfl, by decide +kernel⟩
theorem yw_X3_fact : yV yX3_fact cX3_fact 2 (some .int) RX3 1 := ⟨gwm 413 (by decide +kernel) (by decide +kernel), gwm 412 (by decide +kernel) (by decide +kernel), gwm 23 (by decide +kernel) (by decide +kernel), gwm 80 (by decide +kernel) (by decide +kernel), rfl, by decide +kernel⟩
theorem yi_X4_init : Cond.code yX4_init cX4_init 2 none ∈ GW ∧ Cond.instanceMethod yX4_init ∈ GW ∧ Cond.initialized RX4 ∈ GW := ⟨gwm 89 (by decide +kernel) (by decide +kernel), gwm 88 (by decide +kernel) (by decide +kernel), gwm 77 (by decide +kernel) (by decide +kernel)⟩
theorem yw_X4_set : yV yX4_set cX4_set 3 (some .int) RX4 2 := ⟨gwm 278 (by decide +kernel) (by decide +kernel), gwm 276 (by decide +kernel) (by decide +kernel), gwm 277 (by decide +kernel) (by decide +kernel), gwm 77 (by decide +kernel) (by decide +kernel), rfl, by decide +kernel⟩
theorem yw_X4_bounds : yV yX4_bounds cX4_bounds 4 (some .int) RX4 3 := ⟨gwm 309 (by decide +kernel) (by decide +kernel), gwm 307 (by decide +kernel) (by decide +kernel), gwm 308 (by decide +kernel) (by decide +kernel), gwm 77 (by decide +kernel) (by decide +kernel), rfl, by decide +kernel⟩
theorem yw_X4_come : yV yX4_come cX4_come 2 (some .int) RX4 1 := ⟨gwm 320 (by decide +kernel) (by decide +kernel), gwm 318 (by decide +kernel) (by decide +kernel), gwm 319 (by decide +kernel) (by decide +kernel), gwm 77 (by decide +kernel) (by decide +kernel), rfl, by decide +kernel⟩
theorem yw_X4_mask : yV yX4_mask cX4_mask 2 (some .int) RX4 1 := ⟨gwm 328 (by decide +kernel) (by decide +kernel), gwm 326 (by decide +kernel) (by decide +kernel), gwm 327 (by decide +kernel) (by decide +kernel), gwm 77 (by decide +kernel) (by decide +kernel), rfl, by decide +kernel⟩
theorem yw_X4_call : yV yX4_call cX4_call 2 (some .int) RX4 1 := ⟨gwm 336 (by decide +kernel) (by decide +kernel), gwm 334 (by decide +kernel) (by decide +kernel), gwm 335 (by decide +kernel) (by decide +kernel), gwm 77 (by decide +kernel) (by decide +kernel), rfl, by decide +kernel⟩
theorem yw_X4_pass : yV yX4_pass cX4_pass 2 (some .int) RX4 1 := ⟨gwm 356 (by decide +kernel) (by decide +kernel), gwm 354 (by decide +kernel) (by decide +kernel), gwm 355 (by decide +kernel) (by decide +kernel), gwm 77 (by decide +kernel) (by decide +kernel), rfl, by decide +kernel⟩
theorem yw_X4_of : yV yX4_of cX4_of 3 (some .int) RX4 2 := ⟨gwm 408 (by decide +kernel) (by decide +kernel), gwm 406 (by decide +kernel) (by decide +kernel), gwm 407 (by decide +kernel) (by decide +kernel), gwm 77 (by decide +kernel) (by decide +kernel), rfl, by decide +kernel⟩
theorem yw_X4_frame : yV yX4_frame cX4_frame 3 (some .int) RX4 2 := ⟨gwm 418 (by decide +kernel) (by decide +kernel), gwm 416 (by decide +kernel) (by decide +kernel), gwm 417 (by decide +kernel) (by decide +kernel), gwm 77 (by decide +kernel) (by decide +kernel), rfl, by decide +kernel⟩
theorem yw_X4_row : yV yX4_row cX4_row 2 (some .int) RX4 1 := ⟨gwm 431 (by decide +kernel) (by decide +kernel), gwm 429 (by decide +kernel) (by decide +kernel), gwm 430 (by decide +kernel) (by decide +kernel), gwm 77 (by decide +kernel) (by decide +kernel), rfl, by decide +kernel⟩
theorem yw_X4_count : yV yX4_count cX4_count 2 (some .int) RX4 1 := ⟨gwm 436 (by decide +kernel) (by decide +kernel), gwm 434 (by decide +kernel) (by decide +kernel), gwm 435 (by decide +kernel) (by decide +kernel), gwm 77 (by decide +kernel) (by decide +kernel), rfl, by decide +kernel⟩
theorem yw_X4_why : yV yX4_why cX4_why 2 (some .int) RX4 1 := ⟨gwm 449 (by decide +kernel) (by decide +kernel), gwm 447 (by decide +kernel) (by decide +kernel), gwm 448 (by decide +kernel) (by decide +kernel), gwm 77 (by decide +kernel) (by decide +kernel), rfl, by decide +kernel⟩
theorem yw_X4_takenIn : yV yX4_takenIn cX4_takenIn 3 (some .int) RX4 1 := ⟨gwm 454 (by decide +kernel) (by decide +kernel), gwm 452 (by decide +kernel) (by decide +kernel), gwm 453 (by decide +kernel) (by decide +kernel), gwm 77 (by decide +kernel) (by decide +kernel), rfl, by decide +kernel⟩
theorem yw_X4_would : yV yX4_would cX4_would 3 (some .int) RX4 2 := ⟨gwm 460 (by decide +kernel) (by decide +kernel), gwm 458 (by decide +kernel) (by decide +kernel), gwm 459 (by decide +kernel) (by decide +kernel), gwm 77 (by decide +kernel) (by decide +kernel), rfl, by decide +kernel⟩
theorem yw_X4_bestCount : yV yX4_bestCount cX4_bestCount 8 (some .int) RX4 3 := ⟨gwm 465 (by decide +kernel) (by decide +kernel), gwm 463 (by decide +kernel) (by decide +kernel), gwm 464 (by decide +kernel) (by decide +kernel), gwm 77 (by decide +kernel) (by decide +kernel), rfl, by decide +kernel⟩
theorem yw_X4_put : yV yX4_put cX4_put 3 (some .int) RX4 1 := ⟨gwm 481 (by decide +kernel) (by decide +kernel), gwm 479 (by decide +kernel) (by decide +kernel), gwm 480 (by decide +kernel) (by decide +kernel), gwm 77 (by decide +kernel) (by decide +kernel), rfl, by decide +kernel⟩
theorem yw_X4_wipe : yV yX4_wipe cX4_wipe 1 (some .int) RX4 0 := ⟨gwm 495 (by decide +kernel) (by decide +kernel), gwm 493 (by decide +kernel) (by decide +kernel), gwm 494 (by decide +kernel) (by decide +kernel), gwm 77 (by decide +kernel) (by decide +kernel), rfl, by decide +kernel⟩
theorem yw_X4_fault : yV yX4_fault cX4_fault 1 (some .int) RX4 0 := ⟨gwm 503 (by decide +kernel) (by decide +kernel), gwm 501 (by decide +kernel) (by decide +kernel), gwm 502 (by decide +kernel) (by decide +kernel), gwm 77 (by decide +kernel) (by decide +kernel), rfl, by decide +kernel⟩
theorem yw_X4_carryOut : yV yX4_carryOut cX4_carryOut 5 (some .int) RX4 0 := ⟨gwm 547 (by decide +kernel) (by decide +kernel), gwm 545 (by decide +kernel) (by decide +kernel), gwm 546 (by decide +kernel) (by decide +kernel), gwm 77 (by decide +kernel) (by decide +kernel), rfl, by decide +kernel⟩
theorem yw_X4_undo : yV yX4_undo cX4_undo 1 (some .int) RX4 0 := ⟨gwm 557 (by decide +kernel) (by decide +kernel), gwm 555 (by decide +kernel) (by decide +kernel), gwm 556 (by decide +kernel) (by decide +kernel), gwm 77 (by decide +kernel) (by decide +kernel), rfl, by decide +kernel⟩
theorem yw_X4_save : yV yX4_save cX4_save 2 (some .int) RX4 1 := ⟨gwm 565 (by decide +kernel) (by decide +kernel), gwm 563 (by decide +kernel) (by decide +kernel), gwm 564 (by decide +kernel) (by decide +kernel), gwm 77 (by decide +kernel) (by decide +kernel), rfl, by decide +kernel⟩
theorem yw_X4_restore : yV yX4_restore cX4_restore 2 (some .int) RX4 1 := ⟨gwm 572 (by decide +kernel) (by decide +kernel), gwm 570 (by decide +kernel) (by decide +kernel), gwm 571 (by decide +kernel) (by decide +kernel), gwm 77 (by decide +kernel) (by decide +kernel), rfl, by decide +kernel⟩
theorem yw_X4_isQueue : yS yX4_isQueue cX4_isQueue 1 (some .boolean) 1 := ⟨gwm 316 (by decide +kernel) (by decide +kernel), gwm 315 (by decide +kernel) (by decide +kernel), gwm 77 (by decide +kernel) (by decide +kernel), by decide +kernel⟩
theorem yw_X4_isSlot : yS yX4_isSlot cX4_isSlot 1 (some .boolean) 1 := ⟨gwm 568 (by decide +kernel) (by decide +kernel), gwm 567 (by decide +kernel) (by decide +kernel), gwm 77 (by decide +kernel) (by decide +kernel), by decide +kernel⟩
theorem yw_X4_trialCost : yV yX4_trialCost cX4_trialCost 5 (some .int) RX4 3 := ⟨gwm 469 (by decide +kernel) (by decide +kernel), gwm 468 (by decide +kernel) (by decide +kernel), gwm 28 (by decide +kernel) (by decide +kernel), gwm 77 (by decide +kernel) (by decide +kernel), rfl, by decide +kernel⟩
theorem yw_X4_carryOrder : yV yX4_carryOrder cX4_carryOrder 1 (some .int) RX4 0 := ⟨gwm 553 (by decide +kernel) (by decide +kernel), gwm 552 (by decide +kernel) (by decide +kernel), gwm 43 (by decide +kernel) (by decide +kernel), gwm 77 (by decide +kernel) (by decide +kernel), rfl, by decide +kernel⟩
theorem yi_X5_init : Cond.code yX5_init cX5_init 2 none ∈ GW ∧ Cond.instanceMethod yX5_init ∈ GW ∧ Cond.initialized RX5 ∈ GW := ⟨gwm 577 (by decide +kernel) (by decide +kernel), gwm 576 (by decide +kernel) (by decide +kernel), gwm 83 (by decide +kernel) (by decide +kernel)⟩
theorem yw_X5_in : yS yX5_in cX5_in 6 (some .boolean) 3 := ⟨gwm 627 (by decide +kernel) (by decide +kernel), gwm 626 (by decide +kernel) (by decide +kernel), gwm 83 (by decide +kernel) (by decide +kernel), by decide +kernel⟩
theorem yw_X5_changes : yV yX5_changes cX5_changes 2 none RX5 0 := ⟨gwm 633 (by decide +kernel) (by decide +kernel), gwm 632 (by decide +kernel) (by decide +kernel), gwm 46 (by decide +kernel) (by decide +kernel), gwm 83 (by decide +kernel) (by decide +kernel), rfl, by decide +kernel⟩
theorem yw_X5_keeps : yV yX5_keeps cX5_keeps 2 none RX5 0 := ⟨gwm 772 (by decide +kernel) (by decide +kernel), gwm 771 (by decide +kernel) (by decide +kernel), gwm 67 (by decide +kernel) (by decide +kernel), gwm 83 (by decide +kernel) (by decide +kernel), rfl, by decide +kernel⟩
theorem yw_X5_comesBack : yV yX5_comesBack cX5_comesBack 2 none RX5 0 := ⟨gwm 776 (by decide +kernel) (by decide +kernel), gwm 775 (by decide +kernel) (by decide +kernel), gwm 68 (by decide +kernel) (by decide +kernel), gwm 83 (by decide +kernel) (by decide +kernel), rfl, by decide +kernel⟩
theorem yw_X5_isQueue : yS yX5_isQueue cX5_isQueue 1 (some .boolean) 1 := ⟨gwm 640 (by decide +kernel) (by decide +kernel), gwm 639 (by decide +kernel) (by decide +kernel), gwm 83 (by decide +kernel) (by decide +kernel), by decide +kernel⟩
theorem yw_X5_get : yV yX5_get cX5_get 3 (some .int) RX5 2 := ⟨gwm 653 (by decide +kernel) (by decide +kernel), gwm 652 (by decide +kernel) (by decide +kernel), gwm 48 (by decide +kernel) (by decide +kernel), gwm 83 (by decide +kernel) (by decide +kernel), rfl, by decide +kernel⟩
theorem yw_X5_lays : yV yX5_lays cX5_lays 4 none RX5 3 := ⟨gwm 582 (by decide +kernel) (by decide +kernel), gwm 581 (by decide +kernel) (by decide +kernel), gwm 45 (by decide +kernel) (by decide +kernel), gwm 83 (by decide +kernel) (by decide +kernel), rfl, by decide +kernel⟩
theorem yw_X5_more : yV yX5_more cX5_more 4 none RX5 3 := ⟨gwm 677 (by decide +kernel) (by decide +kernel), gwm 676 (by decide +kernel) (by decide +kernel), gwm 53 (by decide +kernel) (by decide +kernel), gwm 83 (by decide +kernel) (by decide +kernel), rfl, by decide +kernel⟩
theorem yw_X5_frameAt : yV yX5_frameAt cX5_frameAt 3 (some .int) RX5 2 := ⟨gwm 673 (by decide +kernel) (by decide +kernel), gwm 672 (by decide +kernel) (by decide +kernel), gwm 52 (by decide +kernel) (by decide +kernel), gwm 83 (by decide +kernel) (by decide +kernel), rfl, by decide +kernel⟩
theorem yw_X5_isInRing : yV yX5_isInRing cX5_isInRing 3 (some .boolean) RX5 2 := ⟨gwm 669 (by decide +kernel) (by decide +kernel), gwm 668 (by decide +kernel) (by decide +kernel), gwm 51 (by decide +kernel) (by decide +kernel), gwm 83 (by decide +kernel) (by decide +kernel), rfl, by decide +kernel⟩
theorem yw_X5_ring : yV yX5_ring cX5_ring 4 (some .int) RX5 1 := ⟨gwm 665 (by decide +kernel) (by decide +kernel), gwm 664 (by decide +kernel) (by decide +kernel), gwm 50 (by decide +kernel) (by decide +kernel), gwm 83 (by decide +kernel) (by decide +kernel), rfl, by decide +kernel⟩
theorem yw_X5_oldest : yV yX5_oldest cX5_oldest 3 (some .int) RX5 1 := ⟨gwm 693 (by decide +kernel) (by decide +kernel), gwm 692 (by decide +kernel) (by decide +kernel), gwm 55 (by decide +kernel) (by decide +kernel), gwm 83 (by decide +kernel) (by decide +kernel), rfl, by decide +kernel⟩
theorem yw_X5_placeInRow : yV yX5_placeInRow cX5_placeInRow 3 (some .int) RX5 1 := ⟨gwm 689 (by decide +kernel) (by decide +kernel), gwm 688 (by decide +kernel) (by decide +kernel), gwm 54 (by decide +kernel) (by decide +kernel), gwm 83 (by decide +kernel) (by decide +kernel), rfl, by decide +kernel⟩
theorem yw_X5_allOf : yV yX5_allOf cX5_allOf 2 (some .int) RX5 1 := ⟨gwm 712 (by decide +kernel) (by decide +kernel), gwm 711 (by decide +kernel) (by decide +kernel), gwm 58 (by decide +kernel) (by decide +kernel), gwm 83 (by decide +kernel) (by decide +kernel), rfl, by decide +kernel⟩
theorem yw_X5_inRings : yV yX5_inRings cX5_inRings 1 (some .int) RX5 0 := ⟨gwm 760 (by decide +kernel) (by decide +kernel), gwm 759 (by decide +kernel) (by decide +kernel), gwm 66 (by decide +kernel) (by decide +kernel), gwm 83 (by decide +kernel) (by decide +kernel), rfl, by decide +kernel⟩
theorem yw_X5_doCome : yV yX5_doCome cX5_doCome 6 (some .int) RX5 1 := ⟨gwm 661 (by decide +kernel) (by decide +kernel), gwm 660 (by decide +kernel) (by decide +kernel), gwm 49 (by decide +kernel) (by decide +kernel), gwm 83 (by decide +kernel) (by decide +kernel), rfl, by decide +kernel⟩
theorem yw_X5_doCall : yV yX5_doCall cX5_doCall 2 none RX5 1 := ⟨gwm 697 (by decide +kernel) (by decide +kernel), gwm 696 (by decide +kernel) (by decide +kernel), gwm 56 (by decide +kernel) (by decide +kernel), gwm 83 (by decide +kernel) (by decide +kernel), rfl, by decide +kernel⟩
theorem yw_X5_takes : yV yX5_takes cX5_takes 4 none RX5 2 := ⟨gwm 724 (by decide +kernel) (by decide +kernel), gwm 723 (by decide +kernel) (by decide +kernel), gwm 61 (by decide +kernel) (by decide +kernel), gwm 83 (by decide +kernel) (by decide +kernel), rfl, by decide +kernel⟩
theorem yw_X5_leaves : yV yX5_leaves cX5_leaves 4 none RX5 1 := ⟨gwm 728 (by decide +kernel) (by decide +kernel), gwm 727 (by decide +kernel) (by decide +kernel), gwm 62 (by decide +kernel) (by decide +kernel), gwm 83 (by decide +kernel) (by decide +kernel), rfl, by decide +kernel⟩
theorem yw_X5_polls : yV yX5_polls cX5_polls 5 none RX5 0 := ⟨gwm 720 (by decide +kernel) (by decide +kernel), gwm 719 (by decide +kernel) (by decide +kernel), gwm 60 (by decide +kernel) (by decide +kernel), gwm 83 (by decide +kernel) (by decide +kernel), rfl, by decide +kernel⟩
theorem yw_X5_reason : yV yX5_reason cX5_reason 3 (some .int) RX5 1 := ⟨gwm 732 (by decide +kernel) (by decide +kernel), gwm 731 (by decide +kernel) (by decide +kernel), gwm 63 (by decide +kernel) (by decide +kernel), gwm 83 (by decide +kernel) (by decide +kernel), rfl, by decide +kernel⟩
theorem yw_X5_tick : yV yX5_tick cX5_tick 2 none RX5 0 := ⟨gwm 716 (by decide +kernel) (by decide +kernel), gwm 715 (by decide +kernel) (by decide +kernel), gwm 59 (by decide +kernel) (by decide +kernel), gwm 83 (by decide +kernel) (by decide +kernel), rfl, by decide +kernel⟩
theorem yw_X5_ticks : yV yX5_ticks cX5_ticks 4 (some .int) RX5 1 := ⟨gwm 708 (by decide +kernel) (by decide +kernel), gwm 707 (by decide +kernel) (by decide +kernel), gwm 57 (by decide +kernel) (by decide +kernel), gwm 83 (by decide +kernel) (by decide +kernel), rfl, by decide +kernel⟩
theorem yw_X5_areBounds : yS yX5_areBounds cX5_areBounds 2 (some .boolean) 2 := ⟨gwm 644 (by decide +kernel) (by decide +kernel), gwm 643 (by decide +kernel) (by decide +kernel), gwm 83 (by decide +kernel) (by decide +kernel), by decide +kernel⟩
theorem yw_X5_doBounds : yV yX5_doBounds cX5_doBounds 5 (some .int) RX5 3 := ⟨gwm 649 (by decide +kernel) (by decide +kernel), gwm 648 (by decide +kernel) (by decide +kernel), gwm 47 (by decide +kernel) (by decide +kernel), gwm 83 (by decide +kernel) (by decide +kernel), rfl, by decide +kernel⟩
theorem yw_X5_isSetting : yS yX5_isSetting cX5_isSetting 2 (some .boolean) 2 := ⟨gwm 623 (by decide +kernel) (by decide +kernel), gwm 622 (by decide +kernel) (by decide +kernel), gwm 83 (by decide +kernel) (by decide +kernel), by decide +kernel⟩
theorem yw_X5_set : yV yX5_set cX5_set 4 (some .int) RX5 2 := ⟨gwm 620 (by decide +kernel) (by decide +kernel), gwm 618 (by decide +kernel) (by decide +kernel), gwm 619 (by decide +kernel) (by decide +kernel), gwm 83 (by decide +kernel) (by decide +kernel), rfl, by decide +kernel⟩
theorem yw_X5_bounds : yV yX5_bounds cX5_bounds 4 (some .int) RX5 3 := ⟨gwm 637 (by decide +kernel) (by decide +kernel), gwm 635 (by decide +kernel) (by decide +kernel), gwm 636 (by decide +kernel) (by decide +kernel), gwm 83 (by decide +kernel) (by decide +kernel), rfl, by decide +kernel⟩
theorem yw_X5_come : yV yX5_come cX5_come 2 (some .int) RX5 1 := ⟨gwm 657 (by decide +kernel) (by decide +kernel), gwm 655 (by decide +kernel) (by decide +kernel), gwm 656 (by decide +kernel) (by decide +kernel), gwm 83 (by decide +kernel) (by decide +kernel), rfl, by decide +kernel⟩
theorem yw_X5_mask : yV yX5_mask cX5_mask 2 (some .int) RX5 1 := ⟨gwm 681 (by decide +kernel) (by decide +kernel), gwm 679 (by decide +kernel) (by decide +kernel), gwm 680 (by decide +kernel) (by decide +kernel), gwm 83 (by decide +kernel) (by decide +kernel), rfl, by decide +kernel⟩
theorem yw_X5_call : yV yX5_call cX5_call 2 (some .int) RX5 1 := ⟨gwm 685 (by decide +kernel) (by decide +kernel), gwm 683 (by decide +kernel) (by decide +kernel), gwm 684 (by decide +kernel) (by decide +kernel), gwm 83 (by decide +kernel) (by decide +kernel), rfl, by decide +kernel⟩
theorem yw_X5_areTicks : yS yX5_areTicks cX5_areTicks 1 (some .boolean) 1 := ⟨gwm 704 (by decide +kernel) (by decide +kernel), gwm 703 (by decide +kernel) (by decide +kernel), gwm 83 (by decide +kernel) (by decide +kernel), by decide +kernel⟩
theorem yw_X5_pass : yV yX5_pass cX5_pass 2 (some .int) RX5 1 := ⟨gwm 701 (by decide +kernel) (by decide +kernel), gwm 699 (by decide +kernel) (by decide +kernel), gwm 700 (by decide +kernel) (by decide +kernel), gwm 83 (by decide +kernel) (by decide +kernel), rfl, by decide +kernel⟩
theorem yw_X5_of : yV yX5_of cX5_of 3 (some .int) RX5 2 := ⟨gwm 736 (by decide +kernel) (by decide +kernel), gwm 734 (by decide +kernel) (by decide +kernel), gwm 735 (by decide +kernel) (by decide +kernel), gwm 83 (by decide +kernel) (by decide +kernel), rfl, by decide +kernel⟩
theorem yw_X5_isFrame : yV yX5_isFrame cX5_isFrame 2 (some .boolean) RX5 1 := ⟨gwm 744 (by decide +kernel) (by decide +kernel), gwm 743 (by decide +kernel) (by decide +kernel), gwm 64 (by decide +kernel) (by decide +kernel), gwm 83 (by decide +kernel) (by decide +kernel), rfl, by decide +kernel⟩
theorem yw_X5_waitOf : yV yX5_waitOf cX5_waitOf 3 (some .int) RX5 1 := ⟨gwm 748 (by decide +kernel) (by decide +kernel), gwm 747 (by decide +kernel) (by decide +kernel), gwm 65 (by decide +kernel) (by decide +kernel), gwm 83 (by decide +kernel) (by decide +kernel), rfl, by decide +kernel⟩
theorem yw_X5_frame : yV yX5_frame cX5_frame 3 (some .int) RX5 2 := ⟨gwm 740 (by decide +kernel) (by decide +kernel), gwm 738 (by decide +kernel) (by decide +kernel), gwm 739 (by decide +kernel) (by decide +kernel), gwm 83 (by decide +kernel) (by decide +kernel), rfl, by decide +kernel⟩
theorem yw_X5_row : yV yX5_row cX5_row 2 (some .int) RX5 1 := ⟨gwm 752 (by decide +kernel) (by decide +kernel), gwm 750 (by decide +kernel) (by decide +kernel), gwm 751 (by decide +kernel) (by decide +kernel), gwm 83 (by decide +kernel) (by decide +kernel), rfl, by decide +kernel⟩
theorem yw_X5_count : yV yX5_count cX5_count 2 (some .int) RX5 1 := ⟨gwm 756 (by decide +kernel) (by decide +kernel), gwm 754 (by decide +kernel) (by decide +kernel), gwm 755 (by decide +kernel) (by decide +kernel), gwm 83 (by decide +kernel) (by decide +kernel), rfl, by decide +kernel⟩
theorem yw_X5_why : yV yX5_why cX5_why 2 (some .int) RX5 1 := ⟨gwm 764 (by decide +kernel) (by decide +kernel), gwm 762 (by decide +kernel) (by decide +kernel), gwm 763 (by decide +kernel) (by decide +kernel), gwm 83 (by decide +kernel) (by decide +kernel), rfl, by decide +kernel⟩
theorem yw_X5_takenIn : yV yX5_takenIn cX5_takenIn 3 (some .int) RX5 1 := ⟨gwm 768 (by decide +kernel) (by decide +kernel), gwm 766 (by decide +kernel) (by decide +kernel), gwm 767 (by decide +kernel) (by decide +kernel), gwm 83 (by decide +kernel) (by decide +kernel), rfl, by decide +kernel⟩
theorem yw_X5_would : yV yX5_would cX5_would 7 (some .int) RX5 2 := ⟨gwm 780 (by decide +kernel) (by decide +kernel), gwm 778 (by decide +kernel) (by decide +kernel), gwm 779 (by decide +kernel) (by decide +kernel), gwm 83 (by decide +kernel) (by decide +kernel), rfl, by decide +kernel⟩
theorem yw_X5_empties : yV yX5_empties cX5_empties 3 none RX5 0 := ⟨gwm 794 (by decide +kernel) (by decide +kernel), gwm 793 (by decide +kernel) (by decide +kernel), gwm 70 (by decide +kernel) (by decide +kernel), gwm 83 (by decide +kernel) (by decide +kernel), rfl, by decide +kernel⟩
theorem yw_X5_costs : yV yX5_costs cX5_costs 8 (some .int) RX5 3 := ⟨gwm 790 (by decide +kernel) (by decide +kernel), gwm 789 (by decide +kernel) (by decide +kernel), gwm 69 (by decide +kernel) (by decide +kernel), gwm 83 (by decide +kernel) (by decide +kernel), rfl, by decide +kernel⟩
theorem yw_X5_bestCount : yV yX5_bestCount cX5_bestCount 8 (some .int) RX5 3 := ⟨gwm 785 (by decide +kernel) (by decide +kernel), gwm 783 (by decide +kernel) (by decide +kernel), gwm 784 (by decide +kernel) (by decide +kernel), gwm 83 (by decide +kernel) (by decide +kernel), rfl, by decide +kernel⟩
theorem yw_X5_charactersOf : yS yX5_charactersOf cX5_charactersOf 5 (some .int) 1 := ⟨gwm 801 (by decide +kernel) (by decide +kernel), gwm 800 (by decide +kernel) (by decide +kernel), gwm 83 (by decide +kernel) (by decide +kernel), by decide +kernel⟩
theorem yw_X5_put : yV yX5_put cX5_put 5 (some .int) RX5 1 := ⟨gwm 798 (by decide +kernel) (by decide +kernel), gwm 796 (by decide +kernel) (by decide +kernel), gwm 797 (by decide +kernel) (by decide +kernel), gwm 83 (by decide +kernel) (by decide +kernel), rfl, by decide +kernel⟩
theorem yw_X5_wipe : yV yX5_wipe cX5_wipe 2 (some .int) RX5 0 := ⟨gwm 808 (by decide +kernel) (by decide +kernel), gwm 806 (by decide +kernel) (by decide +kernel), gwm 807 (by decide +kernel) (by decide +kernel), gwm 83 (by decide +kernel) (by decide +kernel), rfl, by decide +kernel⟩
theorem yw_X5_isHere : yV yX5_isHere cX5_isHere 3 (some .boolean) RX5 2 := ⟨gwm 824 (by decide +kernel) (by decide +kernel), gwm 823 (by decide +kernel) (by decide +kernel), gwm 73 (by decide +kernel) (by decide +kernel), gwm 83 (by decide +kernel) (by decide +kernel), rfl, by decide +kernel⟩
theorem yw_X5_takesOne : yV yX5_takesOne cX5_takesOne 3 (some .boolean) RX5 1 := ⟨gwm 820 (by decide +kernel) (by decide +kernel), gwm 819 (by decide +kernel) (by decide +kernel), gwm 72 (by decide +kernel) (by decide +kernel), gwm 83 (by decide +kernel) (by decide +kernel), rfl, by decide +kernel⟩
theorem yw_X5_readsNumber : yV yX5_readsNumber cX5_readsNumber 4 (some .boolean) RX5 2 := ⟨gwm 828 (by decide +kernel) (by decide +kernel), gwm 827 (by decide +kernel) (by decide +kernel), gwm 74 (by decide +kernel) (by decide +kernel), gwm 83 (by decide +kernel) (by decide +kernel), rfl, by decide +kernel⟩
theorem yw_X5_readsOrder : yV yX5_readsOrder cX5_readsOrder 2 (some .boolean) RX5 0 := ⟨gwm 816 (by decide +kernel) (by decide +kernel), gwm 815 (by decide +kernel) (by decide +kernel), gwm 71 (by decide +kernel) (by decide +kernel), gwm 83 (by decide +kernel) (by decide +kernel), rfl, by decide +kernel⟩
theorem yw_X5_fault : yV yX5_fault cX5_fault 2 (some .int) RX5 0 := ⟨gwm 812 (by decide +kernel) (by decide +kernel), gwm 810 (by decide +kernel) (by decide +kernel), gwm 811 (by decide +kernel) (by decide +kernel), gwm 83 (by decide +kernel) (by decide +kernel), rfl, by decide +kernel⟩
theorem yw_X5_carries : yV yX5_carries cX5_carries 3 (some .int) RX5 0 := ⟨gwm 837 (by decide +kernel) (by decide +kernel), gwm 836 (by decide +kernel) (by decide +kernel), gwm 75 (by decide +kernel) (by decide +kernel), gwm 83 (by decide +kernel) (by decide +kernel), rfl, by decide +kernel⟩
theorem yw_X5_carryOut : yV yX5_carryOut cX5_carryOut 5 (some .int) RX5 0 := ⟨gwm 832 (by decide +kernel) (by decide +kernel), gwm 830 (by decide +kernel) (by decide +kernel), gwm 831 (by decide +kernel) (by decide +kernel), gwm 83 (by decide +kernel) (by decide +kernel), rfl, by decide +kernel⟩
theorem yw_X5_undo : yV yX5_undo cX5_undo 2 (some .int) RX5 0 := ⟨gwm 841 (by decide +kernel) (by decide +kernel), gwm 839 (by decide +kernel) (by decide +kernel), gwm 840 (by decide +kernel) (by decide +kernel), gwm 83 (by decide +kernel) (by decide +kernel), rfl, by decide +kernel⟩
theorem yw_X5_isSlot : yS yX5_isSlot cX5_isSlot 1 (some .boolean) 1 := ⟨gwm 848 (by decide +kernel) (by decide +kernel), gwm 847 (by decide +kernel) (by decide +kernel), gwm 83 (by decide +kernel) (by decide +kernel), by decide +kernel⟩
theorem yw_X5_save : yV yX5_save cX5_save 3 (some .int) RX5 1 := ⟨gwm 845 (by decide +kernel) (by decide +kernel), gwm 843 (by decide +kernel) (by decide +kernel), gwm 844 (by decide +kernel) (by decide +kernel), gwm 83 (by decide +kernel) (by decide +kernel), rfl, by decide +kernel⟩
theorem yw_X5_restore : yV yX5_restore cX5_restore 3 (some .int) RX5 1 := ⟨gwm 852 (by decide +kernel) (by decide +kernel), gwm 850 (by decide +kernel) (by decide +kernel), gwm 851 (by decide +kernel) (by decide +kernel), gwm 83 (by decide +kernel) (by decide +kernel), rfl, by decide +kernel⟩
theorem lk_L_9 : Cond.methodLink RL 9 yX4_init ∈ GW := gwm 87 (by decide +kernel) (by decide +kernel)
theorem lk_X4_1 : Cond.methodLink RX4 1 Lib.objectInit ∈ GW := gwm 90 (by decide +kernel) (by decide +kernel)
theorem lk_X0_3 : Cond.methodLink RX0 3 Lib.objectInit ∈ GW := gwm 98 (by decide +kernel) (by decide +kernel)
theorem lk_X0_43 : Cond.methodLink RX0 43 arraycopyName ∈ GW := gwm 103 (by decide +kernel) (by decide +kernel)
theorem lk_X3_3 : Cond.methodLink RX3 3 Lib.objectInit ∈ GW := gwm 110 (by decide +kernel) (by decide +kernel)
theorem lk_X1_5 : Cond.methodLink RX1 5 Lib.objectInit ∈ GW := gwm 200 (by decide +kernel) (by decide +kernel)
theorem lk_X2_3 : Cond.methodLink RX2 3 Lib.objectInit ∈ GW := gwm 220 (by decide +kernel) (by decide +kernel)
theorem lk_L_13 : Cond.methodLink RL 13 yX4_set ∈ GW := gwm 275 (by decide +kernel) (by decide +kernel)
theorem lk_X1_29 : Cond.methodLink RX1 29 Lib.Math.min.name ∈ GW := gwm 303 (by decide +kernel) (by decide +kernel)
theorem lk_L_18 : Cond.methodLink RL 18 yX4_bounds ∈ GW := gwm 306 (by decide +kernel) (by decide +kernel)
theorem lk_L_23 : Cond.methodLink RL 23 yX4_come ∈ GW := gwm 317 (by decide +kernel) (by decide +kernel)
theorem lk_L_28 : Cond.methodLink RL 28 yX4_mask ∈ GW := gwm 325 (by decide +kernel) (by decide +kernel)
theorem lk_L_32 : Cond.methodLink RL 32 yX4_call ∈ GW := gwm 333 (by decide +kernel) (by decide +kernel)
theorem lk_X0_93 : Cond.methodLink RX0 93 yX0_enterRow ∈ GW := gwm 345 (by decide +kernel) (by decide +kernel)
theorem lk_X0_131 : Cond.methodLink RX0 131 yX0_rowLength ∈ GW := gwm 349 (by decide +kernel) (by decide +kernel)
theorem lk_L_36 : Cond.methodLink RL 36 yX4_pass ∈ GW := gwm 353 (by decide +kernel) (by decide +kernel)
theorem lk_X0_99 : Cond.methodLink RX0 99 yX0_runTicks ∈ GW := gwm 361 (by decide +kernel) (by decide +kernel)
theorem lk_X0_103 : Cond.methodLink RX0 103 yX0_tick ∈ GW := gwm 365 (by decide +kernel) (by decide +kernel)
theorem lk_X0_107 : Cond.methodLink RX0 107 yX0_poll ∈ GW := gwm 369 (by decide +kernel) (by decide +kernel)
theorem lk_X0_114 : Cond.methodLink RX0 114 yX0_queueAt ∈ GW := gwm 373 (by decide +kernel) (by decide +kernel)
theorem lk_X0_117 : Cond.methodLink RX0 117 yX0_hasFrame ∈ GW := gwm 377 (by decide +kernel) (by decide +kernel)
theorem lk_X0_120 : Cond.methodLink RX0 120 yX0_takeOldest ∈ GW := gwm 381 (by decide +kernel) (by decide +kernel)
theorem lk_X3_52 : Cond.methodLink RX3 52 Lib.Math.max.name ∈ GW := gwm 389 (by decide +kernel) (by decide +kernel)
theorem lk_X0_124 : Cond.methodLink RX0 124 yX0_leaveRow ∈ GW := gwm 392 (by decide +kernel) (by decide +kernel)
theorem lk_X3_58 : Cond.methodLink RX3 58 Lib.Math.min.name ∈ GW := gwm 400 (by decide +kernel) (by decide +kernel)
theorem lk_X0_110 : Cond.methodLink RX0 110 yX0_whySilent ∈ GW := gwm 401 (by decide +kernel) (by decide +kernel)
theorem lk_L_40 : Cond.methodLink RL 40 yX4_of ∈ GW := gwm 405 (by decide +kernel) (by decide +kernel)
theorem lk_X4_69 : Cond.methodLink RX4 69 yX4_isQueue ∈ GW := gwm 409 (by decide +kernel) (by decide +kernel)
theorem lk_X3_61 : Cond.methodLink RX3 61 yX3_isCalled ∈ GW := gwm 414 (by decide +kernel) (by decide +kernel)
theorem lk_L_44 : Cond.methodLink RL 44 yX4_frame ∈ GW := gwm 415 (by decide +kernel) (by decide +kernel)
theorem lk_X0_144 : Cond.methodLink RX0 144 yX0_waitOf ∈ GW := gwm 424 (by decide +kernel) (by decide +kernel)
theorem lk_L_48 : Cond.methodLink RL 48 yX4_row ∈ GW := gwm 428 (by decide +kernel) (by decide +kernel)
theorem lk_L_52 : Cond.methodLink RL 52 yX4_count ∈ GW := gwm 433 (by decide +kernel) (by decide +kernel)
theorem lk_L_56 : Cond.methodLink RL 56 yX4_why ∈ GW := gwm 446 (by decide +kernel) (by decide +kernel)
theorem lk_L_60 : Cond.methodLink RL 60 yX4_takenIn ∈ GW := gwm 451 (by decide +kernel) (by decide +kernel)
theorem lk_L_64 : Cond.methodLink RL 64 yX4_would ∈ GW := gwm 457 (by decide +kernel) (by decide +kernel)
theorem lk_L_68 : Cond.methodLink RL 68 yX4_bestCount ∈ GW := gwm 462 (by decide +kernel) (by decide +kernel)
theorem lk_X4_131 : Cond.methodLink RX4 131 yX4_trialCost ∈ GW := gwm 466 (by decide +kernel) (by decide +kernel)
theorem lk_L_74 : Cond.methodLink RL 74 yX4_put ∈ GW := gwm 478 (by decide +kernel) (by decide +kernel)
theorem lk_X2_42 : Cond.methodLink RX2 42 yX2_sizeOf ∈ GW := gwm 486 (by decide +kernel) (by decide +kernel)
theorem lk_L_79 : Cond.methodLink RL 79 yX4_wipe ∈ GW := gwm 492 (by decide +kernel) (by decide +kernel)
theorem lk_L_84 : Cond.methodLink RL 84 yX4_fault ∈ GW := gwm 500 (by decide +kernel) (by decide +kernel)
theorem lk_X2_52 : Cond.methodLink RX2 52 yX2_startReading ∈ GW := gwm 508 (by decide +kernel) (by decide +kernel)
theorem lk_X2_55 : Cond.methodLink RX2 55 yX2_readOrder ∈ GW := gwm 512 (by decide +kernel) (by decide +kernel)
theorem lk_X2_59 : Cond.methodLink RX2 59 yX2_readSign ∈ GW := gwm 516 (by decide +kernel) (by decide +kernel)
theorem lk_X2_63 : Cond.methodLink RX2 63 yX2_readFrames ∈ GW := gwm 520 (by decide +kernel) (by decide +kernel)
theorem lk_X2_66 : Cond.methodLink RX2 66 yX2_readNumber ∈ GW := gwm 524 (by decide +kernel) (by decide +kernel)
theorem lk_X2_73 : Cond.methodLink RX2 73 yX2_readDigit ∈ GW := gwm 528 (by decide +kernel) (by decide +kernel)
theorem lk_X2_80 : Cond.methodLink RX2 80 yX2_digitStands ∈ GW := gwm 532 (by decide +kernel) (by decide +kernel)
theorem lk_X2_70 : Cond.methodLink RX2 70 yX2_readBounds ∈ GW := gwm 536 (by decide +kernel) (by decide +kernel)
theorem lk_X2_76 : Cond.methodLink RX2 76 yX2_demand ∈ GW := gwm 540 (by decide +kernel) (by decide +kernel)
theorem lk_L_88 : Cond.methodLink RL 88 yX4_carryOut ∈ GW := gwm 544 (by decide +kernel) (by decide +kernel)
theorem lk_X4_154 : Cond.methodLink RX4 154 yX4_carryOrder ∈ GW := gwm 550 (by decide +kernel) (by decide +kernel)
theorem lk_L_92 : Cond.methodLink RL 92 yX4_undo ∈ GW := gwm 554 (by decide +kernel) (by decide +kernel)
theorem lk_L_96 : Cond.methodLink RL 96 yX4_save ∈ GW := gwm 562 (by decide +kernel) (by decide +kernel)
theorem lk_X4_161 : Cond.methodLink RX4 161 yX4_isSlot ∈ GW := gwm 566 (by decide +kernel) (by decide +kernel)
theorem lk_L_100 : Cond.methodLink RL 100 yX4_restore ∈ GW := gwm 569 (by decide +kernel) (by decide +kernel)
theorem lk_L_12 : Cond.methodLink RL 12 yX5_init ∈ GW := gwm 575 (by decide +kernel) (by decide +kernel)
theorem lk_X5_1 : Cond.methodLink RX5 1 Lib.objectInit ∈ GW := gwm 578 (by decide +kernel) (by decide +kernel)
theorem lk_X5_31 : Cond.methodLink RX5 31 yX5_lays ∈ GW := gwm 579 (by decide +kernel) (by decide +kernel)
theorem lk_L_17 : Cond.methodLink RL 17 yX5_set ∈ GW := gwm 617 (by decide +kernel) (by decide +kernel)
theorem lk_X5_100 : Cond.methodLink RX5 100 yX5_isSetting ∈ GW := gwm 621 (by decide +kernel) (by decide +kernel)
theorem lk_X5_41 : Cond.methodLink RX5 41 yX5_in ∈ GW := gwm 625 (by decide +kernel) (by decide +kernel)
theorem lk_X5_103 : Cond.methodLink RX5 103 yX5_changes ∈ GW := gwm 630 (by decide +kernel) (by decide +kernel)
theorem lk_L_22 : Cond.methodLink RL 22 yX5_bounds ∈ GW := gwm 634 (by decide +kernel) (by decide +kernel)
theorem lk_X5_106 : Cond.methodLink RX5 106 yX5_isQueue ∈ GW := gwm 638 (by decide +kernel) (by decide +kernel)
theorem lk_X5_110 : Cond.methodLink RX5 110 yX5_areBounds ∈ GW := gwm 642 (by decide +kernel) (by decide +kernel)
theorem lk_X5_113 : Cond.methodLink RX5 113 yX5_doBounds ∈ GW := gwm 646 (by decide +kernel) (by decide +kernel)
theorem lk_X5_53 : Cond.methodLink RX5 53 yX5_get ∈ GW := gwm 650 (by decide +kernel) (by decide +kernel)
theorem lk_L_27 : Cond.methodLink RL 27 yX5_come ∈ GW := gwm 654 (by decide +kernel) (by decide +kernel)
theorem lk_X5_117 : Cond.methodLink RX5 117 yX5_doCome ∈ GW := gwm 658 (by decide +kernel) (by decide +kernel)
theorem lk_X5_56 : Cond.methodLink RX5 56 yX5_ring ∈ GW := gwm 662 (by decide +kernel) (by decide +kernel)
theorem lk_X5_49 : Cond.methodLink RX5 49 yX5_isInRing ∈ GW := gwm 666 (by decide +kernel) (by decide +kernel)
theorem lk_X5_45 : Cond.methodLink RX5 45 yX5_frameAt ∈ GW := gwm 670 (by decide +kernel) (by decide +kernel)
theorem lk_X5_60 : Cond.methodLink RX5 60 yX5_more ∈ GW := gwm 674 (by decide +kernel) (by decide +kernel)
theorem lk_L_31 : Cond.methodLink RL 31 yX5_mask ∈ GW := gwm 678 (by decide +kernel) (by decide +kernel)
theorem lk_L_35 : Cond.methodLink RL 35 yX5_call ∈ GW := gwm 682 (by decide +kernel) (by decide +kernel)
theorem lk_X5_74 : Cond.methodLink RX5 74 yX5_placeInRow ∈ GW := gwm 686 (by decide +kernel) (by decide +kernel)
theorem lk_X5_63 : Cond.methodLink RX5 63 yX5_oldest ∈ GW := gwm 690 (by decide +kernel) (by decide +kernel)
theorem lk_X5_83 : Cond.methodLink RX5 83 yX5_doCall ∈ GW := gwm 694 (by decide +kernel) (by decide +kernel)
theorem lk_L_39 : Cond.methodLink RL 39 yX5_pass ∈ GW := gwm 698 (by decide +kernel) (by decide +kernel)
theorem lk_X5_120 : Cond.methodLink RX5 120 yX5_areTicks ∈ GW := gwm 702 (by decide +kernel) (by decide +kernel)
theorem lk_X5_123 : Cond.methodLink RX5 123 yX5_ticks ∈ GW := gwm 705 (by decide +kernel) (by decide +kernel)
theorem lk_X5_86 : Cond.methodLink RX5 86 yX5_allOf ∈ GW := gwm 709 (by decide +kernel) (by decide +kernel)
theorem lk_X5_89 : Cond.methodLink RX5 89 yX5_tick ∈ GW := gwm 713 (by decide +kernel) (by decide +kernel)
theorem lk_X5_77 : Cond.methodLink RX5 77 yX5_polls ∈ GW := gwm 717 (by decide +kernel) (by decide +kernel)
theorem lk_X5_66 : Cond.methodLink RX5 66 yX5_takes ∈ GW := gwm 721 (by decide +kernel) (by decide +kernel)
theorem lk_X5_70 : Cond.methodLink RX5 70 yX5_leaves ∈ GW := gwm 725 (by decide +kernel) (by decide +kernel)
theorem lk_X5_80 : Cond.methodLink RX5 80 yX5_reason ∈ GW := gwm 729 (by decide +kernel) (by decide +kernel)
theorem lk_L_43 : Cond.methodLink RL 43 yX5_of ∈ GW := gwm 733 (by decide +kernel) (by decide +kernel)
theorem lk_L_47 : Cond.methodLink RL 47 yX5_frame ∈ GW := gwm 737 (by decide +kernel) (by decide +kernel)
theorem lk_X5_126 : Cond.methodLink RX5 126 yX5_isFrame ∈ GW := gwm 741 (by decide +kernel) (by decide +kernel)
theorem lk_X5_129 : Cond.methodLink RX5 129 yX5_waitOf ∈ GW := gwm 745 (by decide +kernel) (by decide +kernel)
theorem lk_L_51 : Cond.methodLink RL 51 yX5_row ∈ GW := gwm 749 (by decide +kernel) (by decide +kernel)
theorem lk_L_55 : Cond.methodLink RL 55 yX5_count ∈ GW := gwm 753 (by decide +kernel) (by decide +kernel)
theorem lk_X5_132 : Cond.methodLink RX5 132 yX5_inRings ∈ GW := gwm 757 (by decide +kernel) (by decide +kernel)
theorem lk_L_59 : Cond.methodLink RL 59 yX5_why ∈ GW := gwm 761 (by decide +kernel) (by decide +kernel)
theorem lk_L_63 : Cond.methodLink RL 63 yX5_takenIn ∈ GW := gwm 765 (by decide +kernel) (by decide +kernel)
theorem lk_X5_139 : Cond.methodLink RX5 139 yX5_keeps ∈ GW := gwm 769 (by decide +kernel) (by decide +kernel)
theorem lk_X5_142 : Cond.methodLink RX5 142 yX5_comesBack ∈ GW := gwm 773 (by decide +kernel) (by decide +kernel)
theorem lk_L_67 : Cond.methodLink RL 67 yX5_would ∈ GW := gwm 777 (by decide +kernel) (by decide +kernel)
theorem lk_L_71 : Cond.methodLink RL 71 yX5_bestCount ∈ GW := gwm 782 (by decide +kernel) (by decide +kernel)
theorem lk_X5_152 : Cond.methodLink RX5 152 yX5_costs ∈ GW := gwm 787 (by decide +kernel) (by decide +kernel)
theorem lk_X5_147 : Cond.methodLink RX5 147 yX5_empties ∈ GW := gwm 791 (by decide +kernel) (by decide +kernel)
theorem lk_L_78 : Cond.methodLink RL 78 yX5_put ∈ GW := gwm 795 (by decide +kernel) (by decide +kernel)
theorem lk_X5_161 : Cond.methodLink RX5 161 yX5_charactersOf ∈ GW := gwm 799 (by decide +kernel) (by decide +kernel)
theorem lk_L_83 : Cond.methodLink RL 83 yX5_wipe ∈ GW := gwm 805 (by decide +kernel) (by decide +kernel)
theorem lk_L_87 : Cond.methodLink RL 87 yX5_fault ∈ GW := gwm 809 (by decide +kernel) (by decide +kernel)
theorem lk_X5_180 : Cond.methodLink RX5 180 yX5_readsOrder ∈ GW := gwm 813 (by decide +kernel) (by decide +kernel)
theorem lk_X5_174 : Cond.methodLink RX5 174 yX5_takesOne ∈ GW := gwm 817 (by decide +kernel) (by decide +kernel)
theorem lk_X5_168 : Cond.methodLink RX5 168 yX5_isHere ∈ GW := gwm 821 (by decide +kernel) (by decide +kernel)
theorem lk_X5_177 : Cond.methodLink RX5 177 yX5_readsNumber ∈ GW := gwm 825 (by decide +kernel) (by decide +kernel)
theorem lk_L_91 : Cond.methodLink RL 91 yX5_carryOut ∈ GW := gwm 829 (by decide +kernel) (by decide +kernel)
theorem lk_X5_184 : Cond.methodLink RX5 184 yX5_fault ∈ GW := gwm 833 (by decide +kernel) (by decide +kernel)
theorem lk_X5_187 : Cond.methodLink RX5 187 yX5_carries ∈ GW := gwm 834 (by decide +kernel) (by decide +kernel)
theorem lk_L_95 : Cond.methodLink RL 95 yX5_undo ∈ GW := gwm 838 (by decide +kernel) (by decide +kernel)
theorem lk_L_99 : Cond.methodLink RL 99 yX5_save ∈ GW := gwm 842 (by decide +kernel) (by decide +kernel)
theorem lk_X5_190 : Cond.methodLink RX5 190 yX5_isSlot ∈ GW := gwm 846 (by decide +kernel) (by decide +kernel)
theorem lk_L_103 : Cond.methodLink RL 103 yX5_restore ∈ GW := gwm 849 (by decide +kernel) (by decide +kernel)
theorem lkn_X4_9 : Cond.methodLinkNest RX4 9 yX0_init RX4 ∈ NWL := nwm 19 (by decide +kernel) rfl
theorem lkn_X0_49 : Cond.methodLinkNest RX0 49 yX3_init RX4 ∈ NWL := nwm 31 (by decide +kernel) rfl
theorem lkn_X4_29 : Cond.methodLinkNest RX4 29 yX1_init RX4 ∈ NWL := nwm 121 (by decide +kernel) rfl
theorem lkn_X1_24 : Cond.methodLinkNest RX1 24 yX0_init RX4 ∈ NWL := nwm 126 (by decide +kernel) rfl
theorem lkn_X4_36 : Cond.methodLinkNest RX4 36 yX2_init RX4 ∈ NWL := nwm 141 (by decide +kernel) rfl
theorem lkn_X4_41 : Cond.methodLinkNest RX4 41 yX1_prepare RX4 ∈ NWL := nwm 203 (by decide +kernel) rfl
theorem lkn_X1_25 : Cond.methodLinkNest RX1 25 yX0_copyFrom RX4 ∈ NWL := nwm 207 (by decide +kernel) rfl
theorem lkn_X0_50 : Cond.methodLinkNest RX0 50 yX3_copyFrom RX4 ∈ NWL := nwm 211 (by decide +kernel) rfl
theorem lkn_X4_45 : Cond.methodLinkNest RX4 45 yX0_changeSetting RX4 ∈ NWL := nwm 215 (by decide +kernel) rfl
theorem lkn_X4_49 : Cond.methodLinkNest RX4 49 yX1_keepIfDone RX4 ∈ NWL := nwm 223 (by decide +kernel) rfl
theorem lkn_X4_53 : Cond.methodLinkNest RX4 53 yX0_changeBounds RX4 ∈ NWL := nwm 234 (by decide +kernel) rfl
theorem lkn_X0_63 : Cond.methodLinkNest RX0 63 yX4_isQueue RX4 ∈ NWL := nwm 238 (by decide +kernel) rfl
theorem lkn_X4_57 : Cond.methodLinkNest RX4 57 yX0_receive RX4 ∈ NWL := nwm 245 (by decide +kernel) rfl
theorem lkn_X4_60 : Cond.methodLinkNest RX4 60 yX0_changeMask RX4 ∈ NWL := nwm 253 (by decide +kernel) rfl
theorem lkn_X4_63 : Cond.methodLinkNest RX4 63 yX0_callByHand RX4 ∈ NWL := nwm 261 (by decide +kernel) rfl
theorem lkn_X0_89 : Cond.methodLinkNest RX0 89 yX3_isCalled RX4 ∈ NWL := nwm 265 (by decide +kernel) rfl
theorem lkn_X4_66 : Cond.methodLinkNest RX4 66 yX0_passTicks RX4 ∈ NWL := nwm 281 (by decide +kernel) rfl
theorem lkn_X0_134 : Cond.methodLinkNest RX0 134 yX3_noteTaken RX4 ∈ NWL := nwm 309 (by decide +kernel) rfl
theorem lkn_X0_127 : Cond.methodLinkNest RX0 127 yX3_becomeIdle RX4 ∈ NWL := nwm 320 (by decide +kernel) rfl
theorem lkn_X4_77 : Cond.methodLinkNest RX4 77 yX3_fact RX4 ∈ NWL := nwm 334 (by decide +kernel) rfl
theorem lkn_X4_82 : Cond.methodLinkNest RX4 82 yX0_hasFrame RX4 ∈ NWL := nwm 343 (by decide +kernel) rfl
theorem lkn_X4_85 : Cond.methodLinkNest RX4 85 yX0_frameFact RX4 ∈ NWL := nwm 344 (by decide +kernel) rfl
theorem lkn_X4_88 : Cond.methodLinkNest RX4 88 yX0_queueAt RX4 ∈ NWL := nwm 356 (by decide +kernel) rfl
theorem lkn_X4_98 : Cond.methodLinkNest RX4 98 yX0_total RX4 ∈ NWL := nwm 361 (by decide +kernel) rfl
theorem lkn_X0_147 : Cond.methodLinkNest RX0 147 yX3_fact RX4 ∈ NWL := nwm 365 (by decide +kernel) rfl
theorem lkn_X4_101 : Cond.methodLinkNest RX4 101 yX0_maskedSet RX4 ∈ NWL := nwm 366 (by decide +kernel) rfl
theorem lkn_X4_115 : Cond.methodLinkNest RX4 115 yX0_whySilent RX4 ∈ NWL := nwm 374 (by decide +kernel) rfl
theorem lkn_X4_122 : Cond.methodLinkNest RX4 122 yX0_copyFrom RX4 ∈ NWL := nwm 379 (by decide +kernel) rfl
theorem lkn_X4_125 : Cond.methodLinkNest RX4 125 yX0_tick RX4 ∈ NWL := nwm 380 (by decide +kernel) rfl
theorem lkn_X4_128 : Cond.methodLinkNest RX4 128 yX0_runTicks RX4 ∈ NWL := nwm 385 (by decide +kernel) rfl
theorem lkn_X4_164 : Cond.methodLinkNest RX4 164 yX0_emptyLike RX4 ∈ NWL := nwm 394 (by decide +kernel) rfl
theorem lkn_X0_54 : Cond.methodLinkNest RX0 54 yX3_emptyLike RX4 ∈ NWL := nwm 398 (by decide +kernel) rfl
theorem lkn_X4_134 : Cond.methodLinkNest RX4 134 yX2_append RX4 ∈ NWL := nwm 406 (by decide +kernel) rfl
theorem lkn_X4_138 : Cond.methodLinkNest RX4 138 yX2_clear RX4 ∈ NWL := nwm 420 (by decide +kernel) rfl
theorem lkn_X4_141 : Cond.methodLinkNest RX4 141 yX2_firstFault RX4 ∈ NWL := nwm 428 (by decide +kernel) rfl
theorem lkn_X4_144 : Cond.methodLinkNest RX4 144 yX2_startReading RX4 ∈ NWL := nwm 472 (by decide +kernel) rfl
theorem lkn_X4_147 : Cond.methodLinkNest RX4 147 yX2_readOrder RX4 ∈ NWL := nwm 473 (by decide +kernel) rfl
theorem lkn_X4_157 : Cond.methodLinkNest RX4 157 yX1_goBack RX4 ∈ NWL := nwm 482 (by decide +kernel) rfl
theorem fl_X3_9 : Cond.fieldLink RX3 9 RX3 "count" "I" ∈ GW := gwm 111 (by decide +kernel) (by decide +kernel)
theorem fl_X3_15 : Cond.fieldLink RX3 15 RX3 "wait" "I" ∈ GW := gwm 113 (by decide +kernel) (by decide +kernel)
theorem fl_X3_18 : Cond.fieldLink RX3 18 RX3 "inUse" "I" ∈ GW := gwm 116 (by decide +kernel) (by decide +kernel)
theorem fl_X3_21 : Cond.fieldLink RX3 21 RX3 "place" "I" ∈ GW := gwm 118 (by decide +kernel) (by decide +kernel)
theorem fl_X3_24 : Cond.fieldLink RX3 24 RX3 "masked" "Z" ∈ GW := gwm 120 (by decide +kernel) (by decide +kernel)
theorem fl_X3_28 : Cond.fieldLink RX3 28 RX3 "inRing" "I" ∈ GW := gwm 122 (by decide +kernel) (by decide +kernel)
theorem fl_X3_31 : Cond.fieldLink RX3 31 RX3 "oldest" "I" ∈ GW := gwm 125 (by decide +kernel) (by decide +kernel)
theorem fl_X3_34 : Cond.fieldLink RX3 34 RX3 "calls" "I" ∈ GW := gwm 127 (by decide +kernel) (by decide +kernel)
theorem fl_X3_37 : Cond.fieldLink RX3 37 RX3 "taken" "I" ∈ GW := gwm 129 (by decide +kernel) (by decide +kernel)
theorem fl_X3_40 : Cond.fieldLink RX3 40 RX3 "dropped" "I" ∈ GW := gwm 130 (by decide +kernel) (by decide +kernel)
theorem fl_X3_43 : Cond.fieldLink RX3 43 RX3 "waited" "I" ∈ GW := gwm 132 (by decide +kernel) (by decide +kernel)
theorem fl_X3_46 : Cond.fieldLink RX3 46 RX3 "longest" "I" ∈ GW := gwm 133 (by decide +kernel) (by decide +kernel)
theorem fl_X3_49 : Cond.fieldLink RX3 49 RX3 "sinceCall" "I" ∈ GW := gwm 134 (by decide +kernel) (by decide +kernel)
theorem fl_X0_13 : Cond.fieldLink RX0 13 RX0 "settings" "[I" ∈ GW := gwm 164 (by decide +kernel) (by decide +kernel)
theorem fl_X0_20 : Cond.fieldLink RX0 20 RX0 "queues" "[LCoalescedCalls$Queue;" ∈ GW := gwm 166 (by decide +kernel) (by decide +kernel)
theorem fl_X0_24 : Cond.fieldLink RX0 24 RX0 "time" "I" ∈ GW := gwm 168 (by decide +kernel) (by decide +kernel)
theorem fl_X0_28 : Cond.fieldLink RX0 28 RX0 "came" "I" ∈ GW := gwm 170 (by decide +kernel) (by decide +kernel)
theorem fl_X0_31 : Cond.fieldLink RX0 31 RX0 "flow" "[I" ∈ GW := gwm 172 (by decide +kernel) (by decide +kernel)
theorem fl_X0_34 : Cond.fieldLink RX0 34 RX0 "cameAt" "[I" ∈ GW := gwm 173 (by decide +kernel) (by decide +kernel)
theorem fl_X0_37 : Cond.fieldLink RX0 37 RX0 "how" "[I" ∈ GW := gwm 174 (by decide +kernel) (by decide +kernel)
theorem fl_X0_40 : Cond.fieldLink RX0 40 RX0 "takenAt" "[I" ∈ GW := gwm 176 (by decide +kernel) (by decide +kernel)
theorem fl_X1_13 : Cond.fieldLink RX1 13 RX1 "states" "[LCoalescedCalls$Card;" ∈ GW := gwm 203 (by decide +kernel) (by decide +kernel)
theorem fl_X1_17 : Cond.fieldLink RX1 17 RX1 "next" "I" ∈ GW := gwm 204 (by decide +kernel) (by decide +kernel)
theorem fl_X1_21 : Cond.fieldLink RX1 21 RX1 "size" "I" ∈ GW := gwm 205 (by decide +kernel) (by decide +kernel)
theorem fl_X2_11 : Cond.fieldLink RX2 11 RX2 "signs" "[C" ∈ GW := gwm 221 (by decide +kernel) (by decide +kernel)
theorem fl_X2_15 : Cond.fieldLink RX2 15 RX2 "length" "I" ∈ GW := gwm 222 (by decide +kernel) (by decide +kernel)
theorem fl_X2_19 : Cond.fieldLink RX2 19 RX2 "at" "I" ∈ GW := gwm 224 (by decide +kernel) (by decide +kernel)
theorem fl_X2_22 : Cond.fieldLink RX2 22 RX2 "broken" "Z" ∈ GW := gwm 225 (by decide +kernel) (by decide +kernel)
theorem fl_X2_26 : Cond.fieldLink RX2 26 RX2 "kind" "C" ∈ GW := gwm 226 (by decide +kernel) (by decide +kernel)
theorem fl_X2_30 : Cond.fieldLink RX2 30 RX2 "first" "I" ∈ GW := gwm 228 (by decide +kernel) (by decide +kernel)
theorem fl_X2_33 : Cond.fieldLink RX2 33 RX2 "second" "I" ∈ GW := gwm 230 (by decide +kernel) (by decide +kernel)
theorem fl_X2_36 : Cond.fieldLink RX2 36 RX2 "third" "I" ∈ GW := gwm 232 (by decide +kernel) (by decide +kernel)
theorem fl_X2_39 : Cond.fieldLink RX2 39 RX2 "times" "I" ∈ GW := gwm 234 (by decide +kernel) (by decide +kernel)
theorem fl_X4_10 : Cond.fieldLink RX4 10 RX4 "card" "LCoalescedCalls$Card;" ∈ GW := gwm 256 (by decide +kernel) (by decide +kernel)
theorem fl_X4_16 : Cond.fieldLink RX4 16 RX4 "probe" "LCoalescedCalls$Card;" ∈ GW := gwm 257 (by decide +kernel) (by decide +kernel)
theorem fl_X4_19 : Cond.fieldLink RX4 19 RX4 "slots" "[LCoalescedCalls$Card;" ∈ GW := gwm 258 (by decide +kernel) (by decide +kernel)
theorem fl_X4_23 : Cond.fieldLink RX4 23 RX4 "saved" "[Z" ∈ GW := gwm 259 (by decide +kernel) (by decide +kernel)
theorem fl_X4_30 : Cond.fieldLink RX4 30 RX4 "history" "LCoalescedCalls$History;" ∈ GW := gwm 260 (by decide +kernel) (by decide +kernel)
theorem fl_X4_37 : Cond.fieldLink RX4 37 RX4 "pad" "LCoalescedCalls$Pad;" ∈ GW := gwm 261 (by decide +kernel) (by decide +kernel)
theorem fl_X5_7 : Cond.fieldLink RX5 7 RX5 "all" "[I" ∈ GW := gwm 583 (by decide +kernel) (by decide +kernel)
theorem fl_X5_13 : Cond.fieldLink RX5 13 RX5 "kept" "[I" ∈ GW := gwm 584 (by decide +kernel) (by decide +kernel)
theorem fl_X5_16 : Cond.fieldLink RX5 16 RX5 "history" "[I" ∈ GW := gwm 585 (by decide +kernel) (by decide +kernel)
theorem fl_X5_35 : Cond.fieldLink RX5 35 RX5 "historyLong" "I" ∈ GW := gwm 586 (by decide +kernel) (by decide +kernel)
theorem fl_X5_19 : Cond.fieldLink RX5 19 RX5 "slots" "[I" ∈ GW := gwm 587 (by decide +kernel) (by decide +kernel)
theorem fl_X5_22 : Cond.fieldLink RX5 22 RX5 "isSaved" "[I" ∈ GW := gwm 588 (by decide +kernel) (by decide +kernel)
theorem fl_X5_25 : Cond.fieldLink RX5 25 RX5 "text" "[I" ∈ GW := gwm 589 (by decide +kernel) (by decide +kernel)
theorem fl_X5_136 : Cond.fieldLink RX5 136 RX5 "textLong" "I" ∈ GW := gwm 590 (by decide +kernel) (by decide +kernel)
theorem fl_X5_165 : Cond.fieldLink RX5 165 RX5 "spot" "I" ∈ GW := gwm 591 (by decide +kernel) (by decide +kernel)
theorem fl_X5_171 : Cond.fieldLink RX5 171 RX5 "letter" "I" ∈ GW := gwm 592 (by decide +kernel) (by decide +kernel)
theorem fl_X5_28 : Cond.fieldLink RX5 28 RX5 "told" "[I" ∈ GW := gwm 593 (by decide +kernel) (by decide +kernel)
theorem fln_X0_9 : Cond.fieldLinkNest RX0 9 RX4 "FIRST_VALUES" "[I" RX4 ∈ NWL := nwm 23 (by decide +kernel) rfl
theorem fln_X0_67 : Cond.fieldLinkNest RX0 67 RX3 "count" "I" RX4 ∈ NWL := nwm 36 (by decide +kernel) rfl
theorem fln_X0_70 : Cond.fieldLinkNest RX0 70 RX3 "wait" "I" RX4 ∈ NWL := nwm 38 (by decide +kernel) rfl
theorem fln_X4_167 : Cond.fieldLinkNest RX4 167 RX3 "wait" "I" RX4 ∈ NWL := nwm 39 (by decide +kernel) rfl
theorem fln_X0_73 : Cond.fieldLinkNest RX0 73 RX3 "inUse" "I" RX4 ∈ NWL := nwm 41 (by decide +kernel) rfl
theorem fln_X0_96 : Cond.fieldLinkNest RX0 96 RX3 "place" "I" RX4 ∈ NWL := nwm 43 (by decide +kernel) rfl
theorem fln_X0_85 : Cond.fieldLinkNest RX0 85 RX3 "masked" "Z" RX4 ∈ NWL := nwm 45 (by decide +kernel) rfl
theorem fln_X0_76 : Cond.fieldLinkNest RX0 76 RX3 "inRing" "I" RX4 ∈ NWL := nwm 47 (by decide +kernel) rfl
theorem fln_X4_170 : Cond.fieldLinkNest RX4 170 RX3 "inRing" "I" RX4 ∈ NWL := nwm 48 (by decide +kernel) rfl
theorem fln_X0_82 : Cond.fieldLinkNest RX0 82 RX3 "oldest" "I" RX4 ∈ NWL := nwm 50 (by decide +kernel) rfl
theorem fln_X0_138 : Cond.fieldLinkNest RX0 138 RX3 "calls" "I" RX4 ∈ NWL := nwm 52 (by decide +kernel) rfl
theorem fln_X0_79 : Cond.fieldLinkNest RX0 79 RX3 "dropped" "I" RX4 ∈ NWL := nwm 55 (by decide +kernel) rfl
theorem fln_X0_141 : Cond.fieldLinkNest RX0 141 RX3 "sinceCall" "I" RX4 ∈ NWL := nwm 59 (by decide +kernel) rfl
theorem fln_X4_105 : Cond.fieldLinkNest RX4 105 RX0 "settings" "[I" RX4 ∈ NWL := nwm 89 (by decide +kernel) rfl
theorem fln_X4_73 : Cond.fieldLinkNest RX4 73 RX0 "queues" "[LCoalescedCalls$Queue;" RX4 ∈ NWL := nwm 91 (by decide +kernel) rfl
theorem fln_X4_91 : Cond.fieldLinkNest RX4 91 RX0 "time" "I" RX4 ∈ NWL := nwm 93 (by decide +kernel) rfl
theorem fln_X4_95 : Cond.fieldLinkNest RX4 95 RX0 "came" "I" RX4 ∈ NWL := nwm 95 (by decide +kernel) rfl
theorem fln_X4_119 : Cond.fieldLinkNest RX4 119 RX0 "how" "[I" RX4 ∈ NWL := nwm 99 (by decide +kernel) rfl
theorem fln_X4_112 : Cond.fieldLinkNest RX4 112 RX1 "size" "I" RX4 ∈ NWL := nwm 130 (by decide +kernel) rfl
theorem fln_X4_109 : Cond.fieldLinkNest RX4 109 RX2 "length" "I" RX4 ∈ NWL := nwm 147 (by decide +kernel) rfl
theorem fln_X4_173 : Cond.fieldLinkNest RX4 173 RX2 "kind" "C" RX4 ∈ NWL := nwm 151 (by decide +kernel) rfl
theorem fln_X4_177 : Cond.fieldLinkNest RX4 177 RX2 "first" "I" RX4 ∈ NWL := nwm 153 (by decide +kernel) rfl
theorem fln_X4_180 : Cond.fieldLinkNest RX4 180 RX2 "second" "I" RX4 ∈ NWL := nwm 155 (by decide +kernel) rfl
theorem fln_X4_183 : Cond.fieldLinkNest RX4 183 RX2 "third" "I" RX4 ∈ NWL := nwm 157 (by decide +kernel) rfl
theorem fln_X4_151 : Cond.fieldLinkNest RX4 151 RX2 "times" "I" RX4 ∈ NWL := nwm 159 (by decide +kernel) rfl
theorem fln_X0_57 : Cond.fieldLinkNest RX0 57 RX4 "LEAST_VALUES" "[I" RX4 ∈ NWL := nwm 219 (by decide +kernel) rfl
theorem fln_X0_60 : Cond.fieldLinkNest RX0 60 RX4 "MOST_VALUES" "[I" RX4 ∈ NWL := nwm 221 (by decide +kernel) rfl
theorem kl_X2_46 : Cond.constantLong RX2 46 (255) ∈ GW := gwm 489 (by decide +kernel) (by decide +kernel)
theorem kl_X2_48 : Cond.constantLong RX2 48 (33) ∈ GW := gwm 490 (by decide +kernel) (by decide +kernel)
theorem kl_X2_50 : Cond.constantLong RX2 50 (126) ∈ GW := gwm 491 (by decide +kernel) (by decide +kernel)
theorem kl_X5_92 : Cond.constantLong RX5 92 (32) ∈ GW := gwm 624 (by decide +kernel) (by decide +kernel)
theorem kl_X5_96 : Cond.constantLong RX5 96 (16) ∈ GW := gwm 628 (by decide +kernel) (by decide +kernel)
theorem kl_X5_98 : Cond.constantLong RX5 98 (50) ∈ GW := gwm 629 (by decide +kernel) (by decide +kernel)
theorem kl_X5_39 : Cond.constantLong RX5 39 (2) ∈ GW := gwm 641 (by decide +kernel) (by decide +kernel)
theorem kl_X5_94 : Cond.constantLong RX5 94 (99) ∈ GW := gwm 645 (by decide +kernel) (by decide +kernel)
theorem kl_X5_145 : Cond.constantLong RX5 145 (3) ∈ GW := gwm 781 (by decide +kernel) (by decide +kernel)
theorem kl_X5_150 : Cond.constantLong RX5 150 (20) ∈ GW := gwm 786 (by decide +kernel) (by decide +kernel)
theorem kl_X5_155 : Cond.constantLong RX5 155 (255) ∈ GW := gwm 802 (by decide +kernel) (by decide +kernel)
theorem kl_X5_157 : Cond.constantLong RX5 157 (33) ∈ GW := gwm 803 (by decide +kernel) (by decide +kernel)
theorem kl_X5_159 : Cond.constantLong RX5 159 (126) ∈ GW := gwm 804 (by decide +kernel) (by decide +kernel)
theorem cl_L_7 : Cond.classLink RL 7 RX4 ∈ GW := gwm 85 (by decide +kernel) (by decide +kernel)
theorem cl_X4_7 : Cond.classLink RX4 7 RX0 ∈ GW := gwm 93 (by decide +kernel) (by decide +kernel)
theorem cl_X0_18 : Cond.classLink RX0 18 RX3 ∈ GW := gwm 101 (by decide +kernel) (by decide +kernel)
theorem cl_X4_27 : Cond.classLink RX4 27 RX1 ∈ GW := gwm 195 (by decide +kernel) (by decide +kernel)
theorem cl_X1_11 : Cond.classLink RX1 11 RX0 ∈ GW := gwm 201 (by decide +kernel) (by decide +kernel)
theorem cl_X4_34 : Cond.classLink RX4 34 RX2 ∈ GW := gwm 215 (by decide +kernel) (by decide +kernel)
theorem cl_L_10 : Cond.classLink RL 10 RX5 ∈ GW := gwm 573 (by decide +kernel) (by decide +kernel)
theorem mk_X4 : Cond.instantiable RX4 6 ∈ GW := gwm 86 (by decide +kernel) (by decide +kernel)
theorem mk_X0 : Cond.instantiable RX0 8 ∈ GW := gwm 94 (by decide +kernel) (by decide +kernel)
theorem mk_X3 : Cond.instantiable RX3 13 ∈ GW := gwm 106 (by decide +kernel) (by decide +kernel)
theorem mk_X1 : Cond.instantiable RX1 3 ∈ GW := gwm 196 (by decide +kernel) (by decide +kernel)
theorem mk_X2 : Cond.instantiable RX2 9 ∈ GW := gwm 216 (by decide +kernel) (by decide +kernel)
theorem mk_X5 : Cond.instantiable RX5 11 ∈ GW := gwm 574 (by decide +kernel) (by decide +kernel)
theorem ac_int : Cond.arrayClass .int ∈ GW := gwm 163 (by decide +kernel) (by decide +kernel)
theorem ac_boolean : Cond.arrayClass .boolean ∈ GW := gwm 214 (by decide +kernel) (by decide +kernel)
theorem ac_char : Cond.arrayClass .char ∈ GW := gwm 255 (by decide +kernel) (by decide +kernel)
theorem st_max : Cond.static Lib.Math.max.name ∈ GW := gwm 390 (by decide +kernel) (by decide +kernel)
theorem cd_max : Cond.code Lib.Math.max.name Lib.Math.max.code 2 (some .int) ∈ GW := gwm 391 (by decide +kernel) (by decide +kernel)
theorem st_min : Cond.static Lib.Math.min.name ∈ GW := gwm 304 (by decide +kernel) (by decide +kernel)
theorem cd_min : Cond.code Lib.Math.min.name Lib.Math.min.code 2 (some .int) ∈ GW := gwm 305 (by decide +kernel) (by decide +kernel)
theorem ini_Math : Cond.initialized "java/lang/Math" ∈ GW := gwm 84 (by decide +kernel) (by decide +kernel)
theorem ini_System : Cond.initialized "java/lang/System" ∈ GW := gwm 79 (by decide +kernel) (by decide +kernel)
theorem st_copy : Cond.static arraycopyName ∈ GW := gwm 104 (by decide +kernel) (by decide +kernel)
theorem nat_copy : Cond.native arraycopyName ∈ GW := gwm 105 (by decide +kernel) (by decide +kernel)
theorem in_obj : Cond.instanceMethod Lib.objectInit ∈ GW := gwm 91 (by decide +kernel) (by decide +kernel)
theorem cd_obj : Cond.code Lib.objectInit ⟨#[0xb1]⟩ 1 none ∈ GW := gwm 92 (by decide +kernel) (by decide +kernel)
end
section
/-! The pieces of the worlds, and small rows -/
abbrev qF (q : Nat → Int32) : List Value := [.int (q 0), .int (q 1), .int (q 2), .int (q 3), .int (q 4), .int (q 5), .int (q 6), .int (q 7), .int (q 8), .int (q 9), .int (q 10), .int (q 11), .int (q 12)]
abbrev qC (b : Nat) (q : Nat → Int32) : Nat × va_E := (b, .inr (3, qF q))
abbrev cO (a : Nat → Nat) (u : CS) : Nat × va_E := (a 0, .inr (0, [.ref (a 1), .ref (a 2), .int (u 0 2), .int (u 0 3), .ref (a 3), .ref (a 4), .ref (a 5), .ref (a 6)]))
abbrev cSe (k : Nat → ClassId) (a : Nat → Nat) (u : CS) : Nat × va_E := (a 1, .inl (k 0, 4, .inl (u 1)))
abbrev cQs (k : Nat → ClassId) (a : Nat → Nat) : Nat × va_E := (a 2, .inl (k 1, 3, .inr (.inr (.inr (.inr (fun j => some (a (7 + j))))))))
abbrev cFl (k : Nat → ClassId) (a : Nat → Nat) (u : CS) : Nat × va_E := (a 3, .inl (k 0, 400, .inl (u 2)))
abbrev cCa (k : Nat → ClassId) (a : Nat → Nat) (u : CS) : Nat × va_E := (a 4, .inl (k 0, 400, .inl (u 3)))
abbrev cHo (k : Nat → ClassId) (a : Nat → Nat) (u : CS) : Nat × va_E := (a 5, .inl (k 0, 400, .inl (u 4)))
abbrev cTa (k : Nat → ClassId) (a : Nat → Nat) (u : CS) : Nat × va_E := (a 6, .inl (k 0, 400, .inl (u 5)))
abbrev cardW (k : Nat → ClassId) (a : Nat → Nat) (u : CS) : va_W := [cO a u, cSe k a u, cQs k a, cFl k a u, cCa k a u, cHo k a u, cTa k a u, qC (a 7) (u 6), qC (a 8) (u 7), qC (a 9) (u 8)]
abbrev refW (k : Nat → ClassId) (a : Nat → Nat) (z f kp hi sl sv tx td : Nat → Int32) : va_W := [(a 0, .inr (5, [.ref (a 1), .ref (a 2), .ref (a 3), .int (z 3), .ref (a 4), .ref (a 5), .ref (a 6), .int (z 7), .int (z 8), .int (z 9), .ref (a 7)])), (a 1, .inl (k 0, 1640, .inl f)), (a 2, .inl (k 0, 1640, .inl kp)), (a 3, .inl (k 0, 9840, .inl hi)), (a 4, .inl (k 0, 3280, .inl sl)), (a 5, .inl (k 0, 2, .inl sv)), (a 6, .inl (k 0, 80, .inl tx)), (a 7, .inl (k 0, 3, .inl td))]
abbrev padW (k : Nat → ClassId) (o s : Nat) (z g : Nat → Int32) : va_W := [(o, .inr (2, [.ref s, .int (z 1), .int (z 2), .int (z 3), .int (z 4), .int (z 5), .int (z 6), .int (z 7), .int (z 8)])), (s, .inl (k 2, 80, .inl g))]
theorem k_inc (n : Nat) : nI n + Int32.ofInt 1 = nI (n + 1) := nI_1 n
theorem k_incx (x : Int32) : x + Int32.ofInt 1 = x + nI 1 := by rw [show Int32.ofInt 1 = nI 1 by decide +kernel]
theorem k_incn (n m : Nat) : nI n + Int32.ofInt (m : Int) = nI (n + m) := by
  rw [← nI_add]
  congr 1
theorem k_toInt_eq {x : Int32} {j : Nat} (hj : j < 2 ^ 31) : x.toInt = (j : Int) ↔ x = nI j := by
  rw [← nI_toInt hj]; exact ⟨fun h => Int32.toInt_inj.mp h, fun h => by rw [h]⟩
theorem k_sw {x : Int32} (n : Nat) (hn : n < 2 ^ 30) (h : ∀ j, j ≤ n → ¬ x = nI j) : x.toInt < 0 ∨ (n : Int) < x.toInt := by
  by_cases h0 : x.toInt < 0
  · exact Or.inl h0
  · refine Or.inr ?_
    rcases Int.lt_or_le (n : Int) x.toInt with q | q
    · exact q
    · have e : x.toInt = ((x.toInt.toNat : Nat) : Int) := by omega
      exact absurd ((k_toInt_eq (by omega)).mp e) (h _ (by omega))
theorem k_sw1 {x : Int32} (h0 : ¬ x = nI 0) (h1 : ¬ x = nI 1) : x.toInt < 0 ∨ (1 : Int) < x.toInt := k_sw 1 (by decide) (fun j hj => by rcases (by omega : j = 0 ∨ j = 1) with rfl | rfl <;> assumption)
theorem k_sw2 {x : Int32} (h0 : ¬ x = nI 0) (h1 : ¬ x = nI 1) (h2 : ¬ x = nI 2) : x.toInt < 0 ∨ (2 : Int) < x.toInt := k_sw 2 (by decide) (fun j hj => by rcases (by omega : j = 0 ∨ j = 1 ∨ j = 2) with rfl | rfl | rfl <;> assumption)
theorem k_sw3 {x : Int32} (h0 : ¬ x = nI 0) (h1 : ¬ x = nI 1) (h2 : ¬ x = nI 2) (h3 : ¬ x = nI 3) : x.toInt < 0 ∨ (3 : Int) < x.toInt := k_sw 3 (by decide) (fun j hj => by rcases (by omega : j = 0 ∨ j = 1 ∨ j = 2 ∨ j = 3) with rfl | rfl | rfl | rfl <;> assumption)
theorem k_sw12 {x : Int32} (h0 : ¬ x = nI 0) (h1 : ¬ x = nI 1) (h2 : ¬ x = nI 2) (h3 : ¬ x = nI 3) (h4 : ¬ x = nI 4) (h5 : ¬ x = nI 5) (h6 : ¬ x = nI 6) (h7 : ¬ x = nI 7) (h8 : ¬ x = nI 8) (h9 : ¬ x = nI 9) (h10 : ¬ x = nI 10) (h11 : ¬ x = nI 11) (h12 : ¬ x = nI 12) : x.toInt < 0 ∨ (12 : Int) < x.toInt :=
  k_sw 12 (by decide) (fun j hj => by rcases (by omega : j = 0 ∨ j = 1 ∨ j = 2 ∨ j = 3 ∨ j = 4 ∨ j = 5 ∨ j = 6 ∨ j = 7 ∨ j = 8 ∨ j = 9 ∨ j = 10 ∨ j = 11 ∨ j = 12) with rfl | rfl | rfl | rfl | rfl | rfl | rfl | rfl | rfl | rfl | rfl | rfl | rfl <;> assumption)
section
variable {p : Program} {l : Launch} {e : Env} {R : Room} {s : State} {m : MethodId} {args : Array Value} {below : List Frame} {meth : Method} {c : Code} {H : Heap} {locs : List Loc} {cells slots : Nat} {Q : State → Prop} {cc : ByteArray} {nL : Nat} {Ts : List Cond} {own : String} {D : va_G} {k : Nat → ClassId} {A : Nat → Prop} {w w' : va_W} {pc : Nat} {ls : Array Slot} {rest : List Value} {a : Nat} {index : Nat}
theorem k_copy (X : KX p s m args meth c cc nL Ts own D k A) (hW : KW D A s w H locs) (q0 q1 : Nat) {a0 n0 n1 : Nat} {f g : Nat → Int32} (he0 : w[q0]? = some (a0, .inl (k 0, n0, .inl f))) (he1 : w[q1]? = some (a, .inl (k 0, n1, .inl g))) {sp dp n : Int32} (hsp : sp = nI 0) (hdp : dp = nI 0) {N : Nat} (hn : n = nI N) (h4 : N ≤ n0) (h5 : N ≤ n1) (hl : ls.size = nL) (hsm : n0 < 2 ^ 31) (hR : 1 ≤ R.frames ∧ (rest.map fun v => v.category).sum + (nativeFrameWords "java/lang/System" "arraycopy" 5 + 11) ≤ R.locals) (hlink : Cond.methodLink own index arraycopyName ∈ GW) (hdg : decode cc pc = .ok (.invokestatic index, 3)) (hw' : w.set q1 (a, .inl (k 0, n1, .inl (va_cpy f g 0 0 N))) = w')
    (kk : ∀ (H1 : Heap) (locs1 : List Loc), KW D A s w' H1 locs1 → W p l e R s m args below meth c H1 locs1 cells slots Q (F0 m (pc + 3) ls rest)) : W p l e R s m args below meth c H locs cells slots Q (F0 m pc ls (.int n :: .int dp :: .ref a :: .int sp :: .ref a0 :: rest)) := by
  subst hsp; subst hdp; subst hn
  have e0 : (nI 0).toNatClampNeg = 0 := nI_clamp (by decide)
  have eN : (nI N).toNatClampNeg = N := nI_clamp (by omega)
  refine va_copyi X.hx X.hb (by rw [X.hml]; exact hl.symm) X.hown (X.wd hlink) (X.wd nat_copy) (X.wd st_copy) (X.wd ini_System) X.hK hW.1 hW.2.1 hW.2.2 q0 q1 0 0 he0 he1 rfl rfl rfl (nI_pos (by decide)) (nI_pos (by decide)) (nI_pos (by omega)) (by rw [e0, eN]; omega) (by rw [e0, eN]; omega) (fun i hi => rfl) hR.1 hR.2 hdg (fun H1 locs1 g1 g2 g3 => kk H1 locs1 ?_)
  rw [e0, eN, hw'] at g1 g2
  exact ⟨g1, g2, g3⟩
end
abbrev tn (x : Int32) : Nat := x.toNatClampNeg
abbrev cn (u : CS) : Nat := tn (u 0 3)
def BB (x : Int32) : Prop := x = nI 0 ∨ x = nI 1
theorem BB.nar {x : Int32} (h : BB x) : narrow .boolean (.int x) = .int x := by rcases h with rfl | rfl <;> rfl
theorem BB.fit {x : Int32} (h : BB x) : fits .boolean (.int x) = true := by rcases h with rfl | rfl <;> rfl
def CM (u : CS) : Prop := u 0 3 = nI (cn u) ∧ cn u ≤ 400 ∧ u 1 1 = nI (tn (u 1 1)) ∧ tn (u 1 1) ≤ 16
theorem tn_of {x : Int32} {n : Nat} (h : x = nI n) (hn : n < 2 ^ 31) : tn x = n := by rw [h]; exact nI_clamp hn
theorem tn_ge {x : Int32} (h : ¬ x < 0) : x = nI (tn x) := by
  obtain ⟨j, hj, rfl⟩ := nI_of h
  rw [tn_of rfl hj]
theorem k_neg {n : Nat} {x : Int32} (hn : n < 2 ^ 31) (hx : x < 0) : ¬ nI n = x := fun h => nI_pos hn (h ▸ hx)
theorem k_negR {n : Nat} {x : Int32} (hn : n < 2 ^ 31) (hx : x < 0) : ¬ x = nI n := fun h => nI_pos hn (h ▸ hx)
theorem tn_lt (x : Int32) : tn x < 2 ^ 31 := by
  have h1 := Int32.toInt_lt x
  show x.toInt.toNat < 2 ^ 31
  omega
theorem CM_of {u u' : CS} (h : CM u) (h0 : u' 0 = u 0) (h1 : u' 1 = u 1) : CM u' := by
  unfold CM cn at h ⊢
  rw [h0, h1]
  exact h
theorem CM_st0 {u : CS} {f : Nat → Int32} (h : CM u) (h3 : f 3 = u 0 3) : CM (st2 u 0 f) := by
  unfold CM cn at h ⊢
  have e0 : st2 u 0 f 0 = f := rfl
  have e1 : st2 u 0 f 1 = u 1 := rfl
  rw [e0, e1, h3]
  exact h
theorem CM_stc {u : CS} {f : Nat → Int32} {c : Nat} (h : CM u) (h0 : c ≠ 0) (h1 : c ≠ 1) : CM (st2 u c f) := by
  refine CM_of h ?_ ?_
  · show (if 0 = c then f else u 0) = u 0
    rw [if_neg (fun e => h0 e.symm)]
  · show (if 1 = c then f else u 1) = u 1
    rw [if_neg (fun e => h1 e.symm)]
theorem k_ge1 {x : Int32} (h : ¬ x < nI 1) : x = nI (tn x) := tn_ge (fun q => h (by
  rw [Int32.lt_iff_toInt_lt] at *
  have e := nI_toInt (n := 1) (by decide)
  have z : (0 : Int32).toInt = 0 := rfl
  omega))
theorem k_ltn {x : Int32} {n : Nat} (hn : n < 2 ^ 31) (h0 : ¬ x < 0) (h1 : x < nI n) : x = nI (tn x) ∧ tn x < n := by
  have e := tn_ge h0
  rw [e] at h1
  exact ⟨e, (nI_ltI (tn_lt x) hn).mp h1⟩
theorem k_len {x : Int32} {n : Nat} (hn : n < 2 ^ 31) (h0 : ¬ x < 0) (h1 : x ≤ nI n) : x = nI (tn x) ∧ tn x ≤ n := by
  have e := tn_ge h0
  rw [e] at h1
  exact ⟨e, (nI_leI (tn_lt x) hn).mp h1⟩
theorem k_mod3 {x : Int32} (h0 : ¬ x < 0) : x - x / nI 3 * nI 3 = nI 0 ∨ x - x / nI 3 * nI 3 = nI 1 ∨ x - x / nI 3 * nI 3 = nI 2 := by
  have e := tn_ge h0
  rw [e, pk_rem (tn_lt x) (by decide) (by decide)]
  rcases (by omega : tn x % 3 = 0 ∨ tn x % 3 = 1 ∨ tn x % 3 = 2) with h | h | h
  · exact Or.inl (by rw [h])
  · exact Or.inr (Or.inl (by rw [h]))
  · exact Or.inr (Or.inr (by rw [h]))
end
section
def m_X3_isCalled_r (q : Nat → Int32) : Int32 := if q 3 = (-1) then nI 0 else nI 1
set_option maxHeartbeats 4000000 in
set_option maxRecDepth 100000 in
theorem c_X3_isCalled (l : Launch) (D : va_G) (k : Nat → ClassId) (b : Nat) (q : Nat → Int32)   : mI l yX3_isCalled (wsY yX3_isCalled cX3_isCalled 1 (some .boolean)) 0 D k [.ref b] [qC b q] [qC b q] (m_X3_isCalled_r q) := by
  refine mI_intro rfl (Nat.le_of_ble_eq_true rfl) (Or.inr ⟨rfl, by rw [m_X3_isCalled_r]; repeat (first | rfl | split)⟩) ?_
  intro p e s m args below meth c A Q ls X hW hl hQ
  have hx := X.hx
  have hb := X.hb
  have hl : lv_has ls 1 [(0, .ref b)] := hl
  refine lv_aload_n hx hb dX3_isCalled_0 rfl (lv_at hl 0 rfl) ?_
  refine k_get X hW inG3 rfl 3 (by decide) fl_X3_21 rfl 0 rfl (v := .int (q 3)) rfl dX3_isCalled_1 ?_
  refine lv_iconst (v := (-1)) hx hb dX3_isCalled_4 (by decide +kernel) ?_
  refine lv_icmp_eq (tgt := 12) hx hb dX3_isCalled_5 (by decide) (fun c_1 => ?_) (fun c_1 => ?_)
  · refine lv_iconst (v := nI 0) hx hb dX3_isCalled_12 (by decide +kernel) ?_
    exact hQ _ _ _ _ _ _ hW dX3_isCalled_13 (by rw [m_X3_isCalled_r, if_pos c_1]) rfl
  · refine lv_iconst (v := nI 1) hx hb dX3_isCalled_8 (by decide +kernel) ?_
    refine lv_goto (tgt := 13) hx hb dX3_isCalled_9 (by decide) ?_
    exact hQ _ _ _ _ _ _ hW dX3_isCalled_13 (by rw [m_X3_isCalled_r, if_neg c_1]) rfl
def m_X3_noteTaken_q (q : Nat → Int32) (t : Int32) : Nat → Int32 := upd (upd (upd (upd (upd q 5 ((q 5) - (nI 1))) 8 ((q 8) + (nI 1))) 12 ((q 12) + (nI 1))) 10 ((q 10) + t)) 11 (if q 11 < t then t else q 11)
set_option maxHeartbeats 4000000 in
set_option maxRecDepth 100000 in
theorem c_X3_noteTaken (l : Launch) (D : va_G) (k : Nat → ClassId) (b : Nat) (q : Nat → Int32) (t : Int32)  : mV l yX3_noteTaken (wsY yX3_noteTaken cX3_noteTaken 2 none) 1 D k [.ref b, .int t] [qC b q] [qC b (m_X3_noteTaken_q q t)] := by
  refine mV_intro rfl (Nat.le_of_ble_eq_true rfl) ?_
  intro p e s m args below meth c A Q ls X hW hl hQ
  have hx := X.hx
  have hb := X.hb
  have hl : lv_has ls 2 [(0, .ref b), (1, .int t)] := hl
  refine lv_aload_n hx hb dX3_noteTaken_0 rfl (lv_at hl 0 rfl) ?_
  refine lv_dup hx hb dX3_noteTaken_1 rfl ?_
  refine k_get X hW inG3 rfl 5 (by decide) fl_X3_28 rfl 0 rfl (v := .int (q 5)) rfl dX3_noteTaken_2 ?_
  refine lv_iconst (v := nI 1) hx hb dX3_noteTaken_5 (by decide +kernel) ?_
  refine lv_isub hx hb dX3_noteTaken_6 ?_
  refine k_put X hW inG3 rfl tyX3_ok nmX3 5 (by decide) fl_X3_28 rfl rfl 0 rfl rfl rfl (Nat.le_of_ble_eq_true rfl) dX3_noteTaken_7 (w' := [qC b (upd q 5 ((q 5) - (nI 1)))]) rfl (fun H locs hW => ?_)
  refine lv_aload_n hx hb dX3_noteTaken_10 rfl (lv_at hl 0 rfl) ?_
  refine lv_dup hx hb dX3_noteTaken_11 rfl ?_
  refine k_get X hW inG3 rfl 8 (by decide) fl_X3_37 rfl 0 rfl (v := .int (q 8)) rfl dX3_noteTaken_12 ?_
  refine lv_iconst (v := nI 1) hx hb dX3_noteTaken_15 (by decide +kernel) ?_
  refine lv_iadd hx hb dX3_noteTaken_16 ?_
  refine k_put X hW inG3 rfl tyX3_ok nmX3 8 (by decide) fl_X3_37 rfl rfl 0 rfl rfl rfl (Nat.le_of_ble_eq_true rfl) dX3_noteTaken_17 (w' := [qC b (upd (upd q 5 ((q 5) - (nI 1))) 8 ((q 8) + (nI 1)))]) rfl (fun H locs hW => ?_)
  refine lv_aload_n hx hb dX3_noteTaken_20 rfl (lv_at hl 0 rfl) ?_
  refine lv_dup hx hb dX3_noteTaken_21 rfl ?_
  refine k_get X hW inG3 rfl 12 (by decide) fl_X3_49 rfl 0 rfl (v := .int (q 12)) rfl dX3_noteTaken_22 ?_
  refine lv_iconst (v := nI 1) hx hb dX3_noteTaken_25 (by decide +kernel) ?_
  refine lv_iadd hx hb dX3_noteTaken_26 ?_
  refine k_put X hW inG3 rfl tyX3_ok nmX3 12 (by decide) fl_X3_49 rfl rfl 0 rfl rfl rfl (Nat.le_of_ble_eq_true rfl) dX3_noteTaken_27 (w' := [qC b (upd (upd (upd q 5 ((q 5) - (nI 1))) 8 ((q 8) + (nI 1))) 12 ((q 12) + (nI 1)))]) rfl (fun H locs hW => ?_)
  refine lv_aload_n hx hb dX3_noteTaken_30 rfl (lv_at hl 0 rfl) ?_
  refine lv_dup hx hb dX3_noteTaken_31 rfl ?_
  refine k_get X hW inG3 rfl 10 (by decide) fl_X3_43 rfl 0 rfl (v := .int (q 10)) rfl dX3_noteTaken_32 ?_
  refine lv_iload_n hx hb dX3_noteTaken_35 rfl (lv_at hl 1 rfl) ?_
  refine lv_iadd hx hb dX3_noteTaken_36 ?_
  refine k_put X hW inG3 rfl tyX3_ok nmX3 10 (by decide) fl_X3_43 rfl rfl 0 rfl rfl rfl (Nat.le_of_ble_eq_true rfl) dX3_noteTaken_37 (w' := [qC b (upd (upd (upd (upd q 5 ((q 5) - (nI 1))) 8 ((q 8) + (nI 1))) 12 ((q 12) + (nI 1))) 10 ((q 10) + t))]) rfl (fun H locs hW => ?_)
  refine lv_aload_n hx hb dX3_noteTaken_40 rfl (lv_at hl 0 rfl) ?_
  refine lv_aload_n hx hb dX3_noteTaken_41 rfl (lv_at hl 0 rfl) ?_
  refine k_get X hW inG3 rfl 11 (by decide) fl_X3_46 rfl 0 rfl (v := .int (q 11)) rfl dX3_noteTaken_42 ?_
  refine lv_iload_n hx hb dX3_noteTaken_45 rfl (lv_at hl 1 rfl) ?_
  refine va_mmax hx hb (by rw [X.hml]; exact hl.1.symm) X.hown (X.wd lk_X3_52) (X.wd st_max) (X.wd ini_Math) (X.wd cd_max) (Nat.le_of_ble_eq_true rfl) (Nat.le_of_ble_eq_true rfl) (Nat.zero_le _) (Nat.zero_le _) dX3_noteTaken_46 ?_
  refine k_put X hW inG3 rfl tyX3_ok nmX3 11 (by decide) fl_X3_46 rfl rfl 0 rfl rfl rfl (Nat.le_of_ble_eq_true rfl) dX3_noteTaken_49 (w' := [qC b (upd (upd (upd (upd (upd q 5 ((q 5) - (nI 1))) 8 ((q 8) + (nI 1))) 12 ((q 12) + (nI 1))) 10 ((q 10) + t)) 11 (if q 11 < t then t else q 11))]) rfl (fun H locs hW => ?_)
  exact hQ _ _ _ _ _ hW dX3_noteTaken_52 (by rw [m_X3_noteTaken_q])
def m_X3_becomeIdle_q (q : Nat → Int32) (fo : Int32) : Nat → Int32 := if fo = 0 then (if fo = 0 then upd q 12 (nI 0) else if q 2 ≤ (nI 2) * (q 12) then upd q 12 (nI 0) else upd (upd q 2 (if (q 2) / (nI 2) < nI 1 then nI 1 else (q 2) / (nI 2))) 12 (nI 0)) else if q 12 ≤ (nI 2) * (q 2) then (if fo = 0 then upd q 12 (nI 0) else if q 2 ≤ (nI 2) * (q 12) then upd q 12 (nI 0) else upd (upd q 2 (if (q 2) / (nI 2) < nI 1 then nI 1 else (q 2) / (nI 2))) 12 (nI 0)) else upd (upd q 2 (if nI 32 < (nI 2) * (q 2) then nI 32 else (nI 2) * (q 2))) 12 (nI 0)
set_option maxHeartbeats 4000000 in
set_option maxRecDepth 100000 in
theorem c_X3_becomeIdle (l : Launch) (D : va_G) (k : Nat → ClassId) (b : Nat) (q : Nat → Int32) (fo : Int32)  : mV l yX3_becomeIdle (wsY yX3_becomeIdle cX3_becomeIdle 2 none) 1 D k [.ref b, .int fo] [qC b q] [qC b (m_X3_becomeIdle_q q fo)] := by
  refine mV_intro rfl (Nat.le_of_ble_eq_true rfl) ?_
  intro p e s m args below meth c A Q ls X hW hl hQ
  have hx := X.hx
  have hb := X.hb
  have hl : lv_has ls 2 [(0, .ref b), (1, .int fo)] := hl
  refine lv_iload_n hx hb dX3_becomeIdle_0 rfl (lv_at hl 1 rfl) ?_
  refine lv_if_eq (tgt := 35) hx hb dX3_becomeIdle_1 (by decide) (fun c_1 => ?_) (fun c_1 => ?_)
  · refine lv_iload_n hx hb dX3_becomeIdle_35 rfl (lv_at hl 1 rfl) ?_
    refine lv_if_eq (tgt := 66) hx hb dX3_becomeIdle_36 (by decide) (fun c_2 => ?_) (fun c_2 => ?_)
    · refine lv_aload_n hx hb dX3_becomeIdle_66 rfl (lv_at hl 0 rfl) ?_
      refine lv_iconst (v := nI 0) hx hb dX3_becomeIdle_67 (by decide +kernel) ?_
      refine k_put X hW inG3 rfl tyX3_ok nmX3 12 (by decide) fl_X3_49 rfl rfl 0 rfl rfl rfl (Nat.le_of_ble_eq_true rfl) dX3_becomeIdle_68 (w' := [qC b (upd q 12 (nI 0))]) rfl (fun H locs hW => ?_)
      exact hQ _ _ _ _ _ hW dX3_becomeIdle_71 (by rw [m_X3_becomeIdle_q, if_pos c_1, if_pos c_2])
    · refine lv_iconst (v := nI 2) hx hb dX3_becomeIdle_39 (by decide +kernel) ?_
      refine lv_aload_n hx hb dX3_becomeIdle_40 rfl (lv_at hl 0 rfl) ?_
      refine k_get X hW inG3 rfl 12 (by decide) fl_X3_49 rfl 0 rfl (v := .int (q 12)) rfl dX3_becomeIdle_41 ?_
      refine lv_imul hx hb dX3_becomeIdle_44 ?_
      refine lv_aload_n hx hb dX3_becomeIdle_45 rfl (lv_at hl 0 rfl) ?_
      refine k_get X hW inG3 rfl 2 (by decide) fl_X3_18 rfl 0 rfl (v := .int (q 2)) rfl dX3_becomeIdle_46 ?_
      refine lv_icmp_ge (tgt := 66) hx hb dX3_becomeIdle_49 (by decide) (fun c_3 => ?_) (fun c_3 => ?_)
      · refine lv_aload_n hx hb dX3_becomeIdle_66 rfl (lv_at hl 0 rfl) ?_
        refine lv_iconst (v := nI 0) hx hb dX3_becomeIdle_67 (by decide +kernel) ?_
        refine k_put X hW inG3 rfl tyX3_ok nmX3 12 (by decide) fl_X3_49 rfl rfl 0 rfl rfl rfl (Nat.le_of_ble_eq_true rfl) dX3_becomeIdle_68 (w' := [qC b (upd q 12 (nI 0))]) rfl (fun H locs hW => ?_)
        exact hQ _ _ _ _ _ hW dX3_becomeIdle_71 (by rw [m_X3_becomeIdle_q, if_pos c_1, if_neg c_2, if_pos c_3])
      · refine lv_aload_n hx hb dX3_becomeIdle_52 rfl (lv_at hl 0 rfl) ?_
        refine lv_aload_n hx hb dX3_becomeIdle_53 rfl (lv_at hl 0 rfl) ?_
        refine k_get X hW inG3 rfl 2 (by decide) fl_X3_18 rfl 0 rfl (v := .int (q 2)) rfl dX3_becomeIdle_54 ?_
        refine lv_iconst (v := nI 2) hx hb dX3_becomeIdle_57 (by decide +kernel) ?_
        refine lv_idiv hx hb dX3_becomeIdle_58 (by decide +kernel) ?_
        refine lv_iconst (v := nI 1) hx hb dX3_becomeIdle_59 (by decide +kernel) ?_
        refine va_mmax hx hb (by rw [X.hml]; exact hl.1.symm) X.hown (X.wd lk_X3_52) (X.wd st_max) (X.wd ini_Math) (X.wd cd_max) (Nat.le_of_ble_eq_true rfl) (Nat.le_of_ble_eq_true rfl) (Nat.zero_le _) (Nat.zero_le _) dX3_becomeIdle_60 ?_
        refine k_put X hW inG3 rfl tyX3_ok nmX3 2 (by decide) fl_X3_18 rfl rfl 0 rfl rfl rfl (Nat.le_of_ble_eq_true rfl) dX3_becomeIdle_63 (w' := [qC b (upd q 2 (if (q 2) / (nI 2) < nI 1 then nI 1 else (q 2) / (nI 2)))]) rfl (fun H locs hW => ?_)
        refine lv_aload_n hx hb dX3_becomeIdle_66 rfl (lv_at hl 0 rfl) ?_
        refine lv_iconst (v := nI 0) hx hb dX3_becomeIdle_67 (by decide +kernel) ?_
        refine k_put X hW inG3 rfl tyX3_ok nmX3 12 (by decide) fl_X3_49 rfl rfl 0 rfl rfl rfl (Nat.le_of_ble_eq_true rfl) dX3_becomeIdle_68 (w' := [qC b (upd (upd q 2 (if (q 2) / (nI 2) < nI 1 then nI 1 else (q 2) / (nI 2))) 12 (nI 0))]) rfl (fun H locs hW => ?_)
        exact hQ _ _ _ _ _ hW dX3_becomeIdle_71 (by rw [m_X3_becomeIdle_q, if_pos c_1, if_neg c_2, if_neg c_3])
  · refine lv_aload_n hx hb dX3_becomeIdle_4 rfl (lv_at hl 0 rfl) ?_
    refine k_get X hW inG3 rfl 12 (by decide) fl_X3_49 rfl 0 rfl (v := .int (q 12)) rfl dX3_becomeIdle_5 ?_
    refine lv_iconst (v := nI 2) hx hb dX3_becomeIdle_8 (by decide +kernel) ?_
    refine lv_aload_n hx hb dX3_becomeIdle_9 rfl (lv_at hl 0 rfl) ?_
    refine k_get X hW inG3 rfl 2 (by decide) fl_X3_18 rfl 0 rfl (v := .int (q 2)) rfl dX3_becomeIdle_10 ?_
    refine lv_imul hx hb dX3_becomeIdle_13 ?_
    refine lv_icmp_le (tgt := 35) hx hb dX3_becomeIdle_14 (by decide) (fun c_4 => ?_) (fun c_4 => ?_)
    · refine lv_iload_n hx hb dX3_becomeIdle_35 rfl (lv_at hl 1 rfl) ?_
      refine lv_if_eq (tgt := 66) hx hb dX3_becomeIdle_36 (by decide) (fun c_5 => ?_) (fun c_5 => ?_)
      · refine lv_aload_n hx hb dX3_becomeIdle_66 rfl (lv_at hl 0 rfl) ?_
        refine lv_iconst (v := nI 0) hx hb dX3_becomeIdle_67 (by decide +kernel) ?_
        refine k_put X hW inG3 rfl tyX3_ok nmX3 12 (by decide) fl_X3_49 rfl rfl 0 rfl rfl rfl (Nat.le_of_ble_eq_true rfl) dX3_becomeIdle_68 (w' := [qC b (upd q 12 (nI 0))]) rfl (fun H locs hW => ?_)
        exact hQ _ _ _ _ _ hW dX3_becomeIdle_71 (by rw [m_X3_becomeIdle_q, if_neg c_1, if_pos c_4, if_pos c_5])
      · refine lv_iconst (v := nI 2) hx hb dX3_becomeIdle_39 (by decide +kernel) ?_
        refine lv_aload_n hx hb dX3_becomeIdle_40 rfl (lv_at hl 0 rfl) ?_
        refine k_get X hW inG3 rfl 12 (by decide) fl_X3_49 rfl 0 rfl (v := .int (q 12)) rfl dX3_becomeIdle_41 ?_
        refine lv_imul hx hb dX3_becomeIdle_44 ?_
        refine lv_aload_n hx hb dX3_becomeIdle_45 rfl (lv_at hl 0 rfl) ?_
        refine k_get X hW inG3 rfl 2 (by decide) fl_X3_18 rfl 0 rfl (v := .int (q 2)) rfl dX3_becomeIdle_46 ?_
        refine lv_icmp_ge (tgt := 66) hx hb dX3_becomeIdle_49 (by decide) (fun c_6 => ?_) (fun c_6 => ?_)
        · refine lv_aload_n hx hb dX3_becomeIdle_66 rfl (lv_at hl 0 rfl) ?_
          refine lv_iconst (v := nI 0) hx hb dX3_becomeIdle_67 (by decide +kernel) ?_
          refine k_put X hW inG3 rfl tyX3_ok nmX3 12 (by decide) fl_X3_49 rfl rfl 0 rfl rfl rfl (Nat.le_of_ble_eq_true rfl) dX3_becomeIdle_68 (w' := [qC b (upd q 12 (nI 0))]) rfl (fun H locs hW => ?_)
          exact hQ _ _ _ _ _ hW dX3_becomeIdle_71 (by rw [m_X3_becomeIdle_q, if_neg c_1, if_pos c_4, if_neg c_5, if_pos c_6])
        · refine lv_aload_n hx hb dX3_becomeIdle_52 rfl (lv_at hl 0 rfl) ?_
          refine lv_aload_n hx hb dX3_becomeIdle_53 rfl (lv_at hl 0 rfl) ?_
          refine k_get X hW inG3 rfl 2 (by decide) fl_X3_18 rfl 0 rfl (v := .int (q 2)) rfl dX3_becomeIdle_54 ?_
          refine lv_iconst (v := nI 2) hx hb dX3_becomeIdle_57 (by decide +kernel) ?_
          refine lv_idiv hx hb dX3_becomeIdle_58 (by decide +kernel) ?_
          refine lv_iconst (v := nI 1) hx hb dX3_becomeIdle_59 (by decide +kernel) ?_
          refine va_mmax hx hb (by rw [X.hml]; exact hl.1.symm) X.hown (X.wd lk_X3_52) (X.wd st_max) (X.wd ini_Math) (X.wd cd_max) (Nat.le_of_ble_eq_true rfl) (Nat.le_of_ble_eq_true rfl) (Nat.zero_le _) (Nat.zero_le _) dX3_becomeIdle_60 ?_
          refine k_put X hW inG3 rfl tyX3_ok nmX3 2 (by decide) fl_X3_18 rfl rfl 0 rfl rfl rfl (Nat.le_of_ble_eq_true rfl) dX3_becomeIdle_63 (w' := [qC b (upd q 2 (if (q 2) / (nI 2) < nI 1 then nI 1 else (q 2) / (nI 2)))]) rfl (fun H locs hW => ?_)
          refine lv_aload_n hx hb dX3_becomeIdle_66 rfl (lv_at hl 0 rfl) ?_
          refine lv_iconst (v := nI 0) hx hb dX3_becomeIdle_67 (by decide +kernel) ?_
          refine k_put X hW inG3 rfl tyX3_ok nmX3 12 (by decide) fl_X3_49 rfl rfl 0 rfl rfl rfl (Nat.le_of_ble_eq_true rfl) dX3_becomeIdle_68 (w' := [qC b (upd (upd q 2 (if (q 2) / (nI 2) < nI 1 then nI 1 else (q 2) / (nI 2))) 12 (nI 0))]) rfl (fun H locs hW => ?_)
          exact hQ _ _ _ _ _ hW dX3_becomeIdle_71 (by rw [m_X3_becomeIdle_q, if_neg c_1, if_pos c_4, if_neg c_5, if_neg c_6])
    · refine lv_aload_n hx hb dX3_becomeIdle_17 rfl (lv_at hl 0 rfl) ?_
      refine lv_iconst (v := nI 2) hx hb dX3_becomeIdle_18 (by decide +kernel) ?_
      refine lv_aload_n hx hb dX3_becomeIdle_19 rfl (lv_at hl 0 rfl) ?_
      refine k_get X hW inG3 rfl 2 (by decide) fl_X3_18 rfl 0 rfl (v := .int (q 2)) rfl dX3_becomeIdle_20 ?_
      refine lv_imul hx hb dX3_becomeIdle_23 ?_
      refine lv_bipush (v := nI 32) hx hb dX3_becomeIdle_24 (by decide +kernel) ?_
      refine va_mmin hx hb (by rw [X.hml]; exact hl.1.symm) X.hown (X.wd lk_X3_58) (X.wd st_min) (X.wd ini_Math) (X.wd cd_min) (Nat.le_of_ble_eq_true rfl) (Nat.le_of_ble_eq_true rfl) (Nat.zero_le _) (Nat.zero_le _) dX3_becomeIdle_26 ?_
      refine k_put X hW inG3 rfl tyX3_ok nmX3 2 (by decide) fl_X3_18 rfl rfl 0 rfl rfl rfl (Nat.le_of_ble_eq_true rfl) dX3_becomeIdle_29 (w' := [qC b (upd q 2 (if nI 32 < (nI 2) * (q 2) then nI 32 else (nI 2) * (q 2)))]) rfl (fun H locs hW => ?_)
      refine lv_goto (tgt := 66) hx hb dX3_becomeIdle_32 (by decide) ?_
      refine lv_aload_n hx hb dX3_becomeIdle_66 rfl (lv_at hl 0 rfl) ?_
      refine lv_iconst (v := nI 0) hx hb dX3_becomeIdle_67 (by decide +kernel) ?_
      refine k_put X hW inG3 rfl tyX3_ok nmX3 12 (by decide) fl_X3_49 rfl rfl 0 rfl rfl rfl (Nat.le_of_ble_eq_true rfl) dX3_becomeIdle_68 (w' := [qC b (upd (upd q 2 (if nI 32 < (nI 2) * (q 2) then nI 32 else (nI 2) * (q 2))) 12 (nI 0))]) rfl (fun H locs hW => ?_)
      exact hQ _ _ _ _ _ hW dX3_becomeIdle_71 (by rw [m_X3_becomeIdle_q, if_neg c_1, if_neg c_4])
def m_X3_fact_r (q : Nat → Int32) (x : Int32) : Int32 := if x = nI 0 then q 0 else if x = nI 1 then q 1 else if x = nI 2 then q 2 else if x = nI 3 then q 5 else if x = nI 4 then (if (m_X3_isCalled_r q) = 0 then nI 0 else nI 1) else if x = nI 5 then (if q 4 = 0 then nI 0 else nI 1) else if x = nI 6 then q 7 else if x = nI 7 then q 8 else if x = nI 8 then q 9 else if x = nI 9 then q 10 else if x = nI 10 then q 11 else if x = nI 11 then q 12 else if x = nI 12 then q 6 else (-2)
set_option maxHeartbeats 4000000 in
set_option maxRecDepth 100000 in
theorem c_X3_fact (l : Launch) (D : va_G) (k : Nat → ClassId) (b : Nat) (q : Nat → Int32) (x : Int32)  : mI l yX3_fact (wsY yX3_fact cX3_fact 2 (some .int)) 1 D k [.ref b, .int x] [qC b q] [qC b q] (m_X3_fact_r q x) := by
  refine mI_intro rfl (Nat.le_of_ble_eq_true rfl) (Or.inl rfl) ?_
  intro p e s m args below meth c A Q ls X hW hl hQ
  have hx := X.hx
  have hb := X.hb
  have hl : lv_has ls 2 [(0, .ref b), (1, .int x)] := hl
  refine lv_iload_n hx hb dX3_fact_0 rfl (lv_at hl 1 rfl) ?_
  by_cases c_2 : x = nI 0
  · refine lv_tableIn (off := 67) (tgt := 68) hx hb dX3_fact_1 (by rw [c_2]; decide +kernel) (by rw [c_2]; decide +kernel) (by rw [c_2]; decide +kernel) (by decide) ?_
    refine lv_aload_n hx hb dX3_fact_68 rfl (lv_at hl 0 rfl) ?_
    refine k_get X hW inG3 rfl 0 (by decide) fl_X3_9 rfl 0 rfl (v := .int (q 0)) rfl dX3_fact_69 ?_
    exact hQ _ _ _ _ _ _ hW dX3_fact_72 (by rw [m_X3_fact_r, if_pos c_2]) rfl
  by_cases c_3 : x = nI 1
  · refine lv_tableIn (off := 72) (tgt := 73) hx hb dX3_fact_1 (by rw [c_3]; decide +kernel) (by rw [c_3]; decide +kernel) (by rw [c_3]; decide +kernel) (by decide) ?_
    refine lv_aload_n hx hb dX3_fact_73 rfl (lv_at hl 0 rfl) ?_
    refine k_get X hW inG3 rfl 1 (by decide) fl_X3_15 rfl 0 rfl (v := .int (q 1)) rfl dX3_fact_74 ?_
    exact hQ _ _ _ _ _ _ hW dX3_fact_77 (by rw [m_X3_fact_r, if_neg c_2, if_pos c_3]) rfl
  by_cases c_4 : x = nI 2
  · refine lv_tableIn (off := 77) (tgt := 78) hx hb dX3_fact_1 (by rw [c_4]; decide +kernel) (by rw [c_4]; decide +kernel) (by rw [c_4]; decide +kernel) (by decide) ?_
    refine lv_aload_n hx hb dX3_fact_78 rfl (lv_at hl 0 rfl) ?_
    refine k_get X hW inG3 rfl 2 (by decide) fl_X3_18 rfl 0 rfl (v := .int (q 2)) rfl dX3_fact_79 ?_
    exact hQ _ _ _ _ _ _ hW dX3_fact_82 (by rw [m_X3_fact_r, if_neg c_2, if_neg c_3, if_pos c_4]) rfl
  by_cases c_5 : x = nI 3
  · refine lv_tableIn (off := 82) (tgt := 83) hx hb dX3_fact_1 (by rw [c_5]; decide +kernel) (by rw [c_5]; decide +kernel) (by rw [c_5]; decide +kernel) (by decide) ?_
    refine lv_aload_n hx hb dX3_fact_83 rfl (lv_at hl 0 rfl) ?_
    refine k_get X hW inG3 rfl 5 (by decide) fl_X3_28 rfl 0 rfl (v := .int (q 5)) rfl dX3_fact_84 ?_
    exact hQ _ _ _ _ _ _ hW dX3_fact_87 (by rw [m_X3_fact_r, if_neg c_2, if_neg c_3, if_neg c_4, if_pos c_5]) rfl
  by_cases c_6 : x = nI 4
  · refine lv_tableIn (off := 87) (tgt := 88) hx hb dX3_fact_1 (by rw [c_6]; decide +kernel) (by rw [c_6]; decide +kernel) (by rw [c_6]; decide +kernel) (by decide) ?_
    refine lv_aload_n hx hb dX3_fact_88 rfl (lv_at hl 0 rfl) ?_
    obtain ⟨z_7, hz_7⟩ : ∃ z, m_X3_isCalled_r q = z := ⟨_, rfl⟩
    have hM_8 := (c_X3_isCalled l D k b q )
    rw [hz_7] at hM_8
    refine kVi (As := []) (rest := []) X hW hM_8 yw_X3_isCalled lk_X3_61 ⟨Nat.le_of_ble_eq_true rfl, Nat.le_of_ble_eq_true rfl⟩ (wr := []) (List.Perm.refl _) (w' := [qC b q]) (List.Perm.refl _) (k_rcv X hW (ci := 3) (q0 := 0) rfl rfl) rfl hl.1 rfl (Nat.le_of_ble_eq_true rfl) ⟨Nat.zero_le _, Nat.zero_le _⟩ dX3_fact_89 (fun H locs hW => ?_)
    refine lv_if_eq (tgt := 99) hx hb dX3_fact_92 (by decide) (fun c_9 => ?_) (fun c_9 => ?_)
    · refine lv_iconst (v := nI 0) hx hb dX3_fact_99 (by decide +kernel) ?_
      exact hQ _ _ _ _ _ _ hW dX3_fact_100 (by subst hz_7; rw [m_X3_fact_r, if_neg c_2, if_neg c_3, if_neg c_4, if_neg c_5, if_pos c_6, if_pos c_9]) rfl
    · refine lv_iconst (v := nI 1) hx hb dX3_fact_95 (by decide +kernel) ?_
      refine lv_goto (tgt := 100) hx hb dX3_fact_96 (by decide) ?_
      exact hQ _ _ _ _ _ _ hW dX3_fact_100 (by subst hz_7; rw [m_X3_fact_r, if_neg c_2, if_neg c_3, if_neg c_4, if_neg c_5, if_pos c_6, if_neg c_9]) rfl
  by_cases c_10 : x = nI 5
  · refine lv_tableIn (off := 100) (tgt := 101) hx hb dX3_fact_1 (by rw [c_10]; decide +kernel) (by rw [c_10]; decide +kernel) (by rw [c_10]; decide +kernel) (by decide) ?_
    refine lv_aload_n hx hb dX3_fact_101 rfl (lv_at hl 0 rfl) ?_
    refine k_get X hW inG3 rfl 4 (by decide) fl_X3_24 rfl 0 rfl (v := .int (q 4)) rfl dX3_fact_102 ?_
    refine lv_if_eq (tgt := 112) hx hb dX3_fact_105 (by decide) (fun c_11 => ?_) (fun c_11 => ?_)
    · refine lv_iconst (v := nI 0) hx hb dX3_fact_112 (by decide +kernel) ?_
      exact hQ _ _ _ _ _ _ hW dX3_fact_113 (by rw [m_X3_fact_r, if_neg c_2, if_neg c_3, if_neg c_4, if_neg c_5, if_neg c_6, if_pos c_10, if_pos c_11]) rfl
    · refine lv_iconst (v := nI 1) hx hb dX3_fact_108 (by decide +kernel) ?_
      refine lv_goto (tgt := 113) hx hb dX3_fact_109 (by decide) ?_
      exact hQ _ _ _ _ _ _ hW dX3_fact_113 (by rw [m_X3_fact_r, if_neg c_2, if_neg c_3, if_neg c_4, if_neg c_5, if_neg c_6, if_pos c_10, if_neg c_11]) rfl
  by_cases c_12 : x = nI 6
  · refine lv_tableIn (off := 113) (tgt := 114) hx hb dX3_fact_1 (by rw [c_12]; decide +kernel) (by rw [c_12]; decide +kernel) (by rw [c_12]; decide +kernel) (by decide) ?_
    refine lv_aload_n hx hb dX3_fact_114 rfl (lv_at hl 0 rfl) ?_
    refine k_get X hW inG3 rfl 7 (by decide) fl_X3_34 rfl 0 rfl (v := .int (q 7)) rfl dX3_fact_115 ?_
    exact hQ _ _ _ _ _ _ hW dX3_fact_118 (by rw [m_X3_fact_r, if_neg c_2, if_neg c_3, if_neg c_4, if_neg c_5, if_neg c_6, if_neg c_10, if_pos c_12]) rfl
  by_cases c_13 : x = nI 7
  · refine lv_tableIn (off := 118) (tgt := 119) hx hb dX3_fact_1 (by rw [c_13]; decide +kernel) (by rw [c_13]; decide +kernel) (by rw [c_13]; decide +kernel) (by decide) ?_
    refine lv_aload_n hx hb dX3_fact_119 rfl (lv_at hl 0 rfl) ?_
    refine k_get X hW inG3 rfl 8 (by decide) fl_X3_37 rfl 0 rfl (v := .int (q 8)) rfl dX3_fact_120 ?_
    exact hQ _ _ _ _ _ _ hW dX3_fact_123 (by rw [m_X3_fact_r, if_neg c_2, if_neg c_3, if_neg c_4, if_neg c_5, if_neg c_6, if_neg c_10, if_neg c_12, if_pos c_13]) rfl
  by_cases c_14 : x = nI 8
  · refine lv_tableIn (off := 123) (tgt := 124) hx hb dX3_fact_1 (by rw [c_14]; decide +kernel) (by rw [c_14]; decide +kernel) (by rw [c_14]; decide +kernel) (by decide) ?_
    refine lv_aload_n hx hb dX3_fact_124 rfl (lv_at hl 0 rfl) ?_
    refine k_get X hW inG3 rfl 9 (by decide) fl_X3_40 rfl 0 rfl (v := .int (q 9)) rfl dX3_fact_125 ?_
    exact hQ _ _ _ _ _ _ hW dX3_fact_128 (by rw [m_X3_fact_r, if_neg c_2, if_neg c_3, if_neg c_4, if_neg c_5, if_neg c_6, if_neg c_10, if_neg c_12, if_neg c_13, if_pos c_14]) rfl
  by_cases c_15 : x = nI 9
  · refine lv_tableIn (off := 128) (tgt := 129) hx hb dX3_fact_1 (by rw [c_15]; decide +kernel) (by rw [c_15]; decide +kernel) (by rw [c_15]; decide +kernel) (by decide) ?_
    refine lv_aload_n hx hb dX3_fact_129 rfl (lv_at hl 0 rfl) ?_
    refine k_get X hW inG3 rfl 10 (by decide) fl_X3_43 rfl 0 rfl (v := .int (q 10)) rfl dX3_fact_130 ?_
    exact hQ _ _ _ _ _ _ hW dX3_fact_133 (by rw [m_X3_fact_r, if_neg c_2, if_neg c_3, if_neg c_4, if_neg c_5, if_neg c_6, if_neg c_10, if_neg c_12, if_neg c_13, if_neg c_14, if_pos c_15]) rfl
  by_cases c_16 : x = nI 10
  · refine lv_tableIn (off := 133) (tgt := 134) hx hb dX3_fact_1 (by rw [c_16]; decide +kernel) (by rw [c_16]; decide +kernel) (by rw [c_16]; decide +kernel) (by decide) ?_
    refine lv_aload_n hx hb dX3_fact_134 rfl (lv_at hl 0 rfl) ?_
    refine k_get X hW inG3 rfl 11 (by decide) fl_X3_46 rfl 0 rfl (v := .int (q 11)) rfl dX3_fact_135 ?_
    exact hQ _ _ _ _ _ _ hW dX3_fact_138 (by rw [m_X3_fact_r, if_neg c_2, if_neg c_3, if_neg c_4, if_neg c_5, if_neg c_6, if_neg c_10, if_neg c_12, if_neg c_13, if_neg c_14, if_neg c_15, if_pos c_16]) rfl
  by_cases c_17 : x = nI 11
  · refine lv_tableIn (off := 138) (tgt := 139) hx hb dX3_fact_1 (by rw [c_17]; decide +kernel) (by rw [c_17]; decide +kernel) (by rw [c_17]; decide +kernel) (by decide) ?_
    refine lv_aload_n hx hb dX3_fact_139 rfl (lv_at hl 0 rfl) ?_
    refine k_get X hW inG3 rfl 12 (by decide) fl_X3_49 rfl 0 rfl (v := .int (q 12)) rfl dX3_fact_140 ?_
    exact hQ _ _ _ _ _ _ hW dX3_fact_143 (by rw [m_X3_fact_r, if_neg c_2, if_neg c_3, if_neg c_4, if_neg c_5, if_neg c_6, if_neg c_10, if_neg c_12, if_neg c_13, if_neg c_14, if_neg c_15, if_neg c_16, if_pos c_17]) rfl
  by_cases c_18 : x = nI 12
  · refine lv_tableIn (off := 143) (tgt := 144) hx hb dX3_fact_1 (by rw [c_18]; decide +kernel) (by rw [c_18]; decide +kernel) (by rw [c_18]; decide +kernel) (by decide) ?_
    refine lv_aload_n hx hb dX3_fact_144 rfl (lv_at hl 0 rfl) ?_
    refine k_get X hW inG3 rfl 6 (by decide) fl_X3_31 rfl 0 rfl (v := .int (q 6)) rfl dX3_fact_145 ?_
    exact hQ _ _ _ _ _ _ hW dX3_fact_148 (by rw [m_X3_fact_r, if_neg c_2, if_neg c_3, if_neg c_4, if_neg c_5, if_neg c_6, if_neg c_10, if_neg c_12, if_neg c_13, if_neg c_14, if_neg c_15, if_neg c_16, if_neg c_17, if_pos c_18]) rfl
  refine lv_tableOut (tgt := 149) hx hb dX3_fact_1 (k_sw12 c_2 c_3 c_4 c_5 c_6 c_10 c_12 c_13 c_14 c_15 c_16 c_17 c_18) (by decide) ?_
  refine lv_bipush (v := (-2)) hx hb dX3_fact_149 (by decide +kernel) ?_
  exact hQ _ _ _ _ _ _ hW dX3_fact_151 (by rw [m_X3_fact_r, if_neg c_2, if_neg c_3, if_neg c_4, if_neg c_5, if_neg c_6, if_neg c_10, if_neg c_12, if_neg c_13, if_neg c_14, if_neg c_15, if_neg c_16, if_neg c_17, if_neg c_18]) rfl
def m_X3_copyFrom_q (q : Nat → Int32) (o : Nat → Int32) : Nat → Int32 := upd (upd (upd (upd (upd (upd (upd (upd (upd (upd (upd (upd (upd q 0 (o 0)) 1 (o 1)) 2 (o 2)) 3 (o 3)) 4 (o 4)) 5 (o 5)) 6 (o 6)) 7 (o 7)) 8 (o 8)) 9 (o 9)) 10 (o 10)) 11 (o 11)) 12 (o 12)
set_option maxHeartbeats 4000000 in
set_option maxRecDepth 100000 in
theorem c_X3_copyFrom (l : Launch) (D : va_G) (k : Nat → ClassId) (b b2 : Nat) (q : Nat → Int32) (o : Nat → Int32)  (hm : BB (o 4)) : mV l yX3_copyFrom (wsY yX3_copyFrom cX3_copyFrom 2 none) 0 D k [.ref b, .ref b2] [qC b q, qC b2 o] [qC b (m_X3_copyFrom_q q o), qC b2 o] := by
  refine mV_intro rfl (Nat.le_of_ble_eq_true rfl) ?_
  intro p e s m args below meth c A Q ls X hW hl hQ
  have hx := X.hx
  have hb := X.hb
  have hl : lv_has ls 2 [(0, .ref b), (1, .ref b2)] := hl
  refine lv_aload_n hx hb dX3_copyFrom_0 rfl (lv_at hl 0 rfl) ?_
  refine lv_aload_n hx hb dX3_copyFrom_1 rfl (lv_at hl 1 rfl) ?_
  refine k_get X hW inG3 rfl 0 (by decide) fl_X3_9 rfl 1 rfl (v := .int (o 0)) rfl dX3_copyFrom_2 ?_
  refine k_put X hW inG3 rfl tyX3_ok nmX3 0 (by decide) fl_X3_9 rfl rfl 0 rfl rfl rfl (Nat.le_of_ble_eq_true rfl) dX3_copyFrom_5 (w' := [qC b (upd q 0 (o 0)), qC b2 o]) rfl (fun H locs hW => ?_)
  refine lv_aload_n hx hb dX3_copyFrom_8 rfl (lv_at hl 0 rfl) ?_
  refine lv_aload_n hx hb dX3_copyFrom_9 rfl (lv_at hl 1 rfl) ?_
  refine k_get X hW inG3 rfl 1 (by decide) fl_X3_15 rfl 1 rfl (v := .int (o 1)) rfl dX3_copyFrom_10 ?_
  refine k_put X hW inG3 rfl tyX3_ok nmX3 1 (by decide) fl_X3_15 rfl rfl 0 rfl rfl rfl (Nat.le_of_ble_eq_true rfl) dX3_copyFrom_13 (w' := [qC b (upd (upd q 0 (o 0)) 1 (o 1)), qC b2 o]) rfl (fun H locs hW => ?_)
  refine lv_aload_n hx hb dX3_copyFrom_16 rfl (lv_at hl 0 rfl) ?_
  refine lv_aload_n hx hb dX3_copyFrom_17 rfl (lv_at hl 1 rfl) ?_
  refine k_get X hW inG3 rfl 2 (by decide) fl_X3_18 rfl 1 rfl (v := .int (o 2)) rfl dX3_copyFrom_18 ?_
  refine k_put X hW inG3 rfl tyX3_ok nmX3 2 (by decide) fl_X3_18 rfl rfl 0 rfl rfl rfl (Nat.le_of_ble_eq_true rfl) dX3_copyFrom_21 (w' := [qC b (upd (upd (upd q 0 (o 0)) 1 (o 1)) 2 (o 2)), qC b2 o]) rfl (fun H locs hW => ?_)
  refine lv_aload_n hx hb dX3_copyFrom_24 rfl (lv_at hl 0 rfl) ?_
  refine lv_aload_n hx hb dX3_copyFrom_25 rfl (lv_at hl 1 rfl) ?_
  refine k_get X hW inG3 rfl 3 (by decide) fl_X3_21 rfl 1 rfl (v := .int (o 3)) rfl dX3_copyFrom_26 ?_
  refine k_put X hW inG3 rfl tyX3_ok nmX3 3 (by decide) fl_X3_21 rfl rfl 0 rfl rfl rfl (Nat.le_of_ble_eq_true rfl) dX3_copyFrom_29 (w' := [qC b (upd (upd (upd (upd q 0 (o 0)) 1 (o 1)) 2 (o 2)) 3 (o 3)), qC b2 o]) rfl (fun H locs hW => ?_)
  refine lv_aload_n hx hb dX3_copyFrom_32 rfl (lv_at hl 0 rfl) ?_
  refine lv_aload_n hx hb dX3_copyFrom_33 rfl (lv_at hl 1 rfl) ?_
  refine k_get X hW inG3 rfl 4 (by decide) fl_X3_24 rfl 1 rfl (v := .int (o 4)) rfl dX3_copyFrom_34 ?_
  refine k_put X hW inG3 rfl tyX3_ok nmX3 4 (by decide) fl_X3_24 rfl rfl 0 rfl hm.nar hm.fit (Nat.le_of_ble_eq_true rfl) dX3_copyFrom_37 (w' := [qC b (upd (upd (upd (upd (upd q 0 (o 0)) 1 (o 1)) 2 (o 2)) 3 (o 3)) 4 (o 4)), qC b2 o]) rfl (fun H locs hW => ?_)
  refine lv_aload_n hx hb dX3_copyFrom_40 rfl (lv_at hl 0 rfl) ?_
  refine lv_aload_n hx hb dX3_copyFrom_41 rfl (lv_at hl 1 rfl) ?_
  refine k_get X hW inG3 rfl 5 (by decide) fl_X3_28 rfl 1 rfl (v := .int (o 5)) rfl dX3_copyFrom_42 ?_
  refine k_put X hW inG3 rfl tyX3_ok nmX3 5 (by decide) fl_X3_28 rfl rfl 0 rfl rfl rfl (Nat.le_of_ble_eq_true rfl) dX3_copyFrom_45 (w' := [qC b (upd (upd (upd (upd (upd (upd q 0 (o 0)) 1 (o 1)) 2 (o 2)) 3 (o 3)) 4 (o 4)) 5 (o 5)), qC b2 o]) rfl (fun H locs hW => ?_)
  refine lv_aload_n hx hb dX3_copyFrom_48 rfl (lv_at hl 0 rfl) ?_
  refine lv_aload_n hx hb dX3_copyFrom_49 rfl (lv_at hl 1 rfl) ?_
  refine k_get X hW inG3 rfl 6 (by decide) fl_X3_31 rfl 1 rfl (v := .int (o 6)) rfl dX3_copyFrom_50 ?_
  refine k_put X hW inG3 rfl tyX3_ok nmX3 6 (by decide) fl_X3_31 rfl rfl 0 rfl rfl rfl (Nat.le_of_ble_eq_true rfl) dX3_copyFrom_53 (w' := [qC b (upd (upd (upd (upd (upd (upd (upd q 0 (o 0)) 1 (o 1)) 2 (o 2)) 3 (o 3)) 4 (o 4)) 5 (o 5)) 6 (o 6)), qC b2 o]) rfl (fun H locs hW => ?_)
  refine lv_aload_n hx hb dX3_copyFrom_56 rfl (lv_at hl 0 rfl) ?_
  refine lv_aload_n hx hb dX3_copyFrom_57 rfl (lv_at hl 1 rfl) ?_
  refine k_get X hW inG3 rfl 7 (by decide) fl_X3_34 rfl 1 rfl (v := .int (o 7)) rfl dX3_copyFrom_58 ?_
  refine k_put X hW inG3 rfl tyX3_ok nmX3 7 (by decide) fl_X3_34 rfl rfl 0 rfl rfl rfl (Nat.le_of_ble_eq_true rfl) dX3_copyFrom_61 (w' := [qC b (upd (upd (upd (upd (upd (upd (upd (upd q 0 (o 0)) 1 (o 1)) 2 (o 2)) 3 (o 3)) 4 (o 4)) 5 (o 5)) 6 (o 6)) 7 (o 7)), qC b2 o]) rfl (fun H locs hW => ?_)
  refine lv_aload_n hx hb dX3_copyFrom_64 rfl (lv_at hl 0 rfl) ?_
  refine lv_aload_n hx hb dX3_copyFrom_65 rfl (lv_at hl 1 rfl) ?_
  refine k_get X hW inG3 rfl 8 (by decide) fl_X3_37 rfl 1 rfl (v := .int (o 8)) rfl dX3_copyFrom_66 ?_
  refine k_put X hW inG3 rfl tyX3_ok nmX3 8 (by decide) fl_X3_37 rfl rfl 0 rfl rfl rfl (Nat.le_of_ble_eq_true rfl) dX3_copyFrom_69 (w' := [qC b (upd (upd (upd (upd (upd (upd (upd (upd (upd q 0 (o 0)) 1 (o 1)) 2 (o 2)) 3 (o 3)) 4 (o 4)) 5 (o 5)) 6 (o 6)) 7 (o 7)) 8 (o 8)), qC b2 o]) rfl (fun H locs hW => ?_)
  refine lv_aload_n hx hb dX3_copyFrom_72 rfl (lv_at hl 0 rfl) ?_
  refine lv_aload_n hx hb dX3_copyFrom_73 rfl (lv_at hl 1 rfl) ?_
  refine k_get X hW inG3 rfl 9 (by decide) fl_X3_40 rfl 1 rfl (v := .int (o 9)) rfl dX3_copyFrom_74 ?_
  refine k_put X hW inG3 rfl tyX3_ok nmX3 9 (by decide) fl_X3_40 rfl rfl 0 rfl rfl rfl (Nat.le_of_ble_eq_true rfl) dX3_copyFrom_77 (w' := [qC b (upd (upd (upd (upd (upd (upd (upd (upd (upd (upd q 0 (o 0)) 1 (o 1)) 2 (o 2)) 3 (o 3)) 4 (o 4)) 5 (o 5)) 6 (o 6)) 7 (o 7)) 8 (o 8)) 9 (o 9)), qC b2 o]) rfl (fun H locs hW => ?_)
  refine lv_aload_n hx hb dX3_copyFrom_80 rfl (lv_at hl 0 rfl) ?_
  refine lv_aload_n hx hb dX3_copyFrom_81 rfl (lv_at hl 1 rfl) ?_
  refine k_get X hW inG3 rfl 10 (by decide) fl_X3_43 rfl 1 rfl (v := .int (o 10)) rfl dX3_copyFrom_82 ?_
  refine k_put X hW inG3 rfl tyX3_ok nmX3 10 (by decide) fl_X3_43 rfl rfl 0 rfl rfl rfl (Nat.le_of_ble_eq_true rfl) dX3_copyFrom_85 (w' := [qC b (upd (upd (upd (upd (upd (upd (upd (upd (upd (upd (upd q 0 (o 0)) 1 (o 1)) 2 (o 2)) 3 (o 3)) 4 (o 4)) 5 (o 5)) 6 (o 6)) 7 (o 7)) 8 (o 8)) 9 (o 9)) 10 (o 10)), qC b2 o]) rfl (fun H locs hW => ?_)
  refine lv_aload_n hx hb dX3_copyFrom_88 rfl (lv_at hl 0 rfl) ?_
  refine lv_aload_n hx hb dX3_copyFrom_89 rfl (lv_at hl 1 rfl) ?_
  refine k_get X hW inG3 rfl 11 (by decide) fl_X3_46 rfl 1 rfl (v := .int (o 11)) rfl dX3_copyFrom_90 ?_
  refine k_put X hW inG3 rfl tyX3_ok nmX3 11 (by decide) fl_X3_46 rfl rfl 0 rfl rfl rfl (Nat.le_of_ble_eq_true rfl) dX3_copyFrom_93 (w' := [qC b (upd (upd (upd (upd (upd (upd (upd (upd (upd (upd (upd (upd q 0 (o 0)) 1 (o 1)) 2 (o 2)) 3 (o 3)) 4 (o 4)) 5 (o 5)) 6 (o 6)) 7 (o 7)) 8 (o 8)) 9 (o 9)) 10 (o 10)) 11 (o 11)), qC b2 o]) rfl (fun H locs hW => ?_)
  refine lv_aload_n hx hb dX3_copyFrom_96 rfl (lv_at hl 0 rfl) ?_
  refine lv_aload_n hx hb dX3_copyFrom_97 rfl (lv_at hl 1 rfl) ?_
  refine k_get X hW inG3 rfl 12 (by decide) fl_X3_49 rfl 1 rfl (v := .int (o 12)) rfl dX3_copyFrom_98 ?_
  refine k_put X hW inG3 rfl tyX3_ok nmX3 12 (by decide) fl_X3_49 rfl rfl 0 rfl rfl rfl (Nat.le_of_ble_eq_true rfl) dX3_copyFrom_101 (w' := [qC b (upd (upd (upd (upd (upd (upd (upd (upd (upd (upd (upd (upd (upd q 0 (o 0)) 1 (o 1)) 2 (o 2)) 3 (o 3)) 4 (o 4)) 5 (o 5)) 6 (o 6)) 7 (o 7)) 8 (o 8)) 9 (o 9)) 10 (o 10)) 11 (o 11)) 12 (o 12)), qC b2 o]) rfl (fun H locs hW => ?_)
  exact hQ _ _ _ _ _ hW dX3_copyFrom_104 (by rw [m_X3_copyFrom_q])
def m_X3_emptyLike_q (q : Nat → Int32) (o : Nat → Int32) : Nat → Int32 := upd (upd (upd (upd (upd (upd (upd (upd (upd (upd (upd (upd (upd q 0 (o 0)) 1 (o 1)) 2 (o 0)) 3 (-1)) 4 (nI 0)) 5 (nI 0)) 6 (-6)) 7 (nI 0)) 8 (nI 0)) 9 (nI 0)) 10 (nI 0)) 11 (-6)) 12 (nI 0)
set_option maxHeartbeats 4000000 in
set_option maxRecDepth 100000 in
theorem c_X3_emptyLike (l : Launch) (D : va_G) (k : Nat → ClassId) (b b2 : Nat) (q : Nat → Int32) (o : Nat → Int32)   : mV l yX3_emptyLike (wsY yX3_emptyLike cX3_emptyLike 2 none) 0 D k [.ref b, .ref b2] [qC b q, qC b2 o] [qC b (m_X3_emptyLike_q q o), qC b2 o] := by
  refine mV_intro rfl (Nat.le_of_ble_eq_true rfl) ?_
  intro p e s m args below meth c A Q ls X hW hl hQ
  have hx := X.hx
  have hb := X.hb
  have hl : lv_has ls 2 [(0, .ref b), (1, .ref b2)] := hl
  refine lv_aload_n hx hb dX3_emptyLike_0 rfl (lv_at hl 0 rfl) ?_
  refine lv_aload_n hx hb dX3_emptyLike_1 rfl (lv_at hl 1 rfl) ?_
  refine k_get X hW inG3 rfl 0 (by decide) fl_X3_9 rfl 1 rfl (v := .int (o 0)) rfl dX3_emptyLike_2 ?_
  refine k_put X hW inG3 rfl tyX3_ok nmX3 0 (by decide) fl_X3_9 rfl rfl 0 rfl rfl rfl (Nat.le_of_ble_eq_true rfl) dX3_emptyLike_5 (w' := [qC b (upd q 0 (o 0)), qC b2 o]) rfl (fun H locs hW => ?_)
  refine lv_aload_n hx hb dX3_emptyLike_8 rfl (lv_at hl 0 rfl) ?_
  refine lv_aload_n hx hb dX3_emptyLike_9 rfl (lv_at hl 1 rfl) ?_
  refine k_get X hW inG3 rfl 1 (by decide) fl_X3_15 rfl 1 rfl (v := .int (o 1)) rfl dX3_emptyLike_10 ?_
  refine k_put X hW inG3 rfl tyX3_ok nmX3 1 (by decide) fl_X3_15 rfl rfl 0 rfl rfl rfl (Nat.le_of_ble_eq_true rfl) dX3_emptyLike_13 (w' := [qC b (upd (upd q 0 (o 0)) 1 (o 1)), qC b2 o]) rfl (fun H locs hW => ?_)
  refine lv_aload_n hx hb dX3_emptyLike_16 rfl (lv_at hl 0 rfl) ?_
  refine lv_aload_n hx hb dX3_emptyLike_17 rfl (lv_at hl 1 rfl) ?_
  refine k_get X hW inG3 rfl 0 (by decide) fl_X3_9 rfl 1 rfl (v := .int (o 0)) rfl dX3_emptyLike_18 ?_
  refine k_put X hW inG3 rfl tyX3_ok nmX3 2 (by decide) fl_X3_18 rfl rfl 0 rfl rfl rfl (Nat.le_of_ble_eq_true rfl) dX3_emptyLike_21 (w' := [qC b (upd (upd (upd q 0 (o 0)) 1 (o 1)) 2 (o 0)), qC b2 o]) rfl (fun H locs hW => ?_)
  refine lv_aload_n hx hb dX3_emptyLike_24 rfl (lv_at hl 0 rfl) ?_
  refine lv_iconst (v := (-1)) hx hb dX3_emptyLike_25 (by decide +kernel) ?_
  refine k_put X hW inG3 rfl tyX3_ok nmX3 3 (by decide) fl_X3_21 rfl rfl 0 rfl rfl rfl (Nat.le_of_ble_eq_true rfl) dX3_emptyLike_26 (w' := [qC b (upd (upd (upd (upd q 0 (o 0)) 1 (o 1)) 2 (o 0)) 3 (-1)), qC b2 o]) rfl (fun H locs hW => ?_)
  refine lv_aload_n hx hb dX3_emptyLike_29 rfl (lv_at hl 0 rfl) ?_
  refine lv_iconst (v := nI 0) hx hb dX3_emptyLike_30 (by decide +kernel) ?_
  refine k_put X hW inG3 rfl tyX3_ok nmX3 4 (by decide) fl_X3_24 rfl rfl 0 rfl rfl rfl (Nat.le_of_ble_eq_true rfl) dX3_emptyLike_31 (w' := [qC b (upd (upd (upd (upd (upd q 0 (o 0)) 1 (o 1)) 2 (o 0)) 3 (-1)) 4 (nI 0)), qC b2 o]) rfl (fun H locs hW => ?_)
  refine lv_aload_n hx hb dX3_emptyLike_34 rfl (lv_at hl 0 rfl) ?_
  refine lv_iconst (v := nI 0) hx hb dX3_emptyLike_35 (by decide +kernel) ?_
  refine k_put X hW inG3 rfl tyX3_ok nmX3 5 (by decide) fl_X3_28 rfl rfl 0 rfl rfl rfl (Nat.le_of_ble_eq_true rfl) dX3_emptyLike_36 (w' := [qC b (upd (upd (upd (upd (upd (upd q 0 (o 0)) 1 (o 1)) 2 (o 0)) 3 (-1)) 4 (nI 0)) 5 (nI 0)), qC b2 o]) rfl (fun H locs hW => ?_)
  refine lv_aload_n hx hb dX3_emptyLike_39 rfl (lv_at hl 0 rfl) ?_
  refine lv_bipush (v := (-6)) hx hb dX3_emptyLike_40 (by decide +kernel) ?_
  refine k_put X hW inG3 rfl tyX3_ok nmX3 6 (by decide) fl_X3_31 rfl rfl 0 rfl rfl rfl (Nat.le_of_ble_eq_true rfl) dX3_emptyLike_42 (w' := [qC b (upd (upd (upd (upd (upd (upd (upd q 0 (o 0)) 1 (o 1)) 2 (o 0)) 3 (-1)) 4 (nI 0)) 5 (nI 0)) 6 (-6)), qC b2 o]) rfl (fun H locs hW => ?_)
  refine lv_aload_n hx hb dX3_emptyLike_45 rfl (lv_at hl 0 rfl) ?_
  refine lv_iconst (v := nI 0) hx hb dX3_emptyLike_46 (by decide +kernel) ?_
  refine k_put X hW inG3 rfl tyX3_ok nmX3 7 (by decide) fl_X3_34 rfl rfl 0 rfl rfl rfl (Nat.le_of_ble_eq_true rfl) dX3_emptyLike_47 (w' := [qC b (upd (upd (upd (upd (upd (upd (upd (upd q 0 (o 0)) 1 (o 1)) 2 (o 0)) 3 (-1)) 4 (nI 0)) 5 (nI 0)) 6 (-6)) 7 (nI 0)), qC b2 o]) rfl (fun H locs hW => ?_)
  refine lv_aload_n hx hb dX3_emptyLike_50 rfl (lv_at hl 0 rfl) ?_
  refine lv_iconst (v := nI 0) hx hb dX3_emptyLike_51 (by decide +kernel) ?_
  refine k_put X hW inG3 rfl tyX3_ok nmX3 8 (by decide) fl_X3_37 rfl rfl 0 rfl rfl rfl (Nat.le_of_ble_eq_true rfl) dX3_emptyLike_52 (w' := [qC b (upd (upd (upd (upd (upd (upd (upd (upd (upd q 0 (o 0)) 1 (o 1)) 2 (o 0)) 3 (-1)) 4 (nI 0)) 5 (nI 0)) 6 (-6)) 7 (nI 0)) 8 (nI 0)), qC b2 o]) rfl (fun H locs hW => ?_)
  refine lv_aload_n hx hb dX3_emptyLike_55 rfl (lv_at hl 0 rfl) ?_
  refine lv_iconst (v := nI 0) hx hb dX3_emptyLike_56 (by decide +kernel) ?_
  refine k_put X hW inG3 rfl tyX3_ok nmX3 9 (by decide) fl_X3_40 rfl rfl 0 rfl rfl rfl (Nat.le_of_ble_eq_true rfl) dX3_emptyLike_57 (w' := [qC b (upd (upd (upd (upd (upd (upd (upd (upd (upd (upd q 0 (o 0)) 1 (o 1)) 2 (o 0)) 3 (-1)) 4 (nI 0)) 5 (nI 0)) 6 (-6)) 7 (nI 0)) 8 (nI 0)) 9 (nI 0)), qC b2 o]) rfl (fun H locs hW => ?_)
  refine lv_aload_n hx hb dX3_emptyLike_60 rfl (lv_at hl 0 rfl) ?_
  refine lv_iconst (v := nI 0) hx hb dX3_emptyLike_61 (by decide +kernel) ?_
  refine k_put X hW inG3 rfl tyX3_ok nmX3 10 (by decide) fl_X3_43 rfl rfl 0 rfl rfl rfl (Nat.le_of_ble_eq_true rfl) dX3_emptyLike_62 (w' := [qC b (upd (upd (upd (upd (upd (upd (upd (upd (upd (upd (upd q 0 (o 0)) 1 (o 1)) 2 (o 0)) 3 (-1)) 4 (nI 0)) 5 (nI 0)) 6 (-6)) 7 (nI 0)) 8 (nI 0)) 9 (nI 0)) 10 (nI 0)), qC b2 o]) rfl (fun H locs hW => ?_)
  refine lv_aload_n hx hb dX3_emptyLike_65 rfl (lv_at hl 0 rfl) ?_
  refine lv_bipush (v := (-6)) hx hb dX3_emptyLike_66 (by decide +kernel) ?_
  refine k_put X hW inG3 rfl tyX3_ok nmX3 11 (by decide) fl_X3_46 rfl rfl 0 rfl rfl rfl (Nat.le_of_ble_eq_true rfl) dX3_emptyLike_68 (w' := [qC b (upd (upd (upd (upd (upd (upd (upd (upd (upd (upd (upd (upd q 0 (o 0)) 1 (o 1)) 2 (o 0)) 3 (-1)) 4 (nI 0)) 5 (nI 0)) 6 (-6)) 7 (nI 0)) 8 (nI 0)) 9 (nI 0)) 10 (nI 0)) 11 (-6)), qC b2 o]) rfl (fun H locs hW => ?_)
  refine lv_aload_n hx hb dX3_emptyLike_71 rfl (lv_at hl 0 rfl) ?_
  refine lv_iconst (v := nI 0) hx hb dX3_emptyLike_72 (by decide +kernel) ?_
  refine k_put X hW inG3 rfl tyX3_ok nmX3 12 (by decide) fl_X3_49 rfl rfl 0 rfl rfl rfl (Nat.le_of_ble_eq_true rfl) dX3_emptyLike_73 (w' := [qC b (upd (upd (upd (upd (upd (upd (upd (upd (upd (upd (upd (upd (upd q 0 (o 0)) 1 (o 1)) 2 (o 0)) 3 (-1)) 4 (nI 0)) 5 (nI 0)) 6 (-6)) 7 (nI 0)) 8 (nI 0)) 9 (nI 0)) 10 (nI 0)) 11 (-6)) 12 (nI 0)), qC b2 o]) rfl (fun H locs hW => ?_)
  exact hQ _ _ _ _ _ hW dX3_emptyLike_76 (by rw [m_X3_emptyLike_q])
end
section
def m_X4_isQueue_r (x : Int32) : Int32 := if x < 0 then nI 0 else if nI 3 ≤ x then nI 0 else nI 1
set_option maxHeartbeats 4000000 in
set_option maxRecDepth 100000 in
theorem c_X4_isQueue (l : Launch) (D : va_G) (k : Nat → ClassId)   (x : Int32)  : mI l yX4_isQueue (wsY yX4_isQueue cX4_isQueue 1 (some .boolean)) 0 D k [.int x] [] [] (m_X4_isQueue_r x) := by
  refine mI_intro rfl (Nat.le_of_ble_eq_true rfl) (Or.inr ⟨rfl, by rw [m_X4_isQueue_r]; repeat (first | rfl | split)⟩) ?_
  intro p e s m args below meth c A Q ls X hW hl hQ
  have hx := X.hx
  have hb := X.hb
  have hl : lv_has ls 1 [(0, .int x)] := hl
  refine lv_iload_n hx hb dX4_isQueue_0 rfl (lv_at hl 0 rfl) ?_
  refine lv_if_lt (tgt := 13) hx hb dX4_isQueue_1 (by decide) (fun c_1 => ?_) (fun c_1 => ?_)
  · refine lv_iconst (v := nI 0) hx hb dX4_isQueue_13 (by decide +kernel) ?_
    exact hQ _ _ _ _ _ _ hW dX4_isQueue_14 (by rw [m_X4_isQueue_r, if_pos c_1]) rfl
  · refine lv_iload_n hx hb dX4_isQueue_4 rfl (lv_at hl 0 rfl) ?_
    refine lv_iconst (v := nI 3) hx hb dX4_isQueue_5 (by decide +kernel) ?_
    refine lv_icmp_ge (tgt := 13) hx hb dX4_isQueue_6 (by decide) (fun c_2 => ?_) (fun c_2 => ?_)
    · refine lv_iconst (v := nI 0) hx hb dX4_isQueue_13 (by decide +kernel) ?_
      exact hQ _ _ _ _ _ _ hW dX4_isQueue_14 (by rw [m_X4_isQueue_r, if_neg c_1, if_pos c_2]) rfl
    · refine lv_iconst (v := nI 1) hx hb dX4_isQueue_9 (by decide +kernel) ?_
      refine lv_goto (tgt := 14) hx hb dX4_isQueue_10 (by decide) ?_
      exact hQ _ _ _ _ _ _ hW dX4_isQueue_14 (by rw [m_X4_isQueue_r, if_neg c_1, if_neg c_2]) rfl
theorem isq3 {x : Int32} (h : ¬ m_X4_isQueue_r x = 0) : x = nI 0 ∨ x = nI 1 ∨ x = nI 2 := by
  unfold m_X4_isQueue_r at h
  by_cases h0 : x < 0
  · rw [if_pos h0] at h; exact absurd rfl h
  · rw [if_neg h0] at h
    by_cases h1 : nI 3 ≤ x
    · rw [if_pos h1] at h; exact absurd rfl h
    · obtain ⟨j, hj, rfl⟩ := nI_of h0
      have hj3 : j < 3 := Nat.lt_of_not_le (fun q => h1 (nI_le q hj))
      rcases (by omega : j = 0 ∨ j = 1 ∨ j = 2) with rfl | rfl | rfl
      · exact Or.inl rfl
      · exact Or.inr (Or.inl rfl)
      · exact Or.inr (Or.inr rfl)
def m_X0_hasFrame_r (u : CS) (x : Int32) : Int32 := if x < 0 then nI 0 else if u 0 3 ≤ x then nI 0 else nI 1
set_option maxHeartbeats 4000000 in
set_option maxRecDepth 100000 in
theorem c_X0_hasFrame (l : Launch) (D : va_G) (k : Nat → ClassId) (a : Nat → Nat) (u : CS) (x : Int32)  : mI l yX0_hasFrame (wsY yX0_hasFrame cX0_hasFrame 2 (some .boolean)) 0 D k [.ref (a 0), .int x] [cO a u] [cO a u] (m_X0_hasFrame_r u x) := by
  refine mI_intro rfl (Nat.le_of_ble_eq_true rfl) (Or.inr ⟨rfl, by rw [m_X0_hasFrame_r]; repeat (first | rfl | split)⟩) ?_
  intro p e s m args below meth c A Q ls X hW hl hQ
  have hx := X.hx
  have hb := X.hb
  have hl : lv_has ls 2 [(0, .ref (a 0)), (1, .int x)] := hl
  refine lv_iload_n hx hb dX0_hasFrame_0 rfl (lv_at hl 1 rfl) ?_
  refine lv_if_lt (tgt := 16) hx hb dX0_hasFrame_1 (by decide) (fun c_1 => ?_) (fun c_1 => ?_)
  · refine lv_iconst (v := nI 0) hx hb dX0_hasFrame_16 (by decide +kernel) ?_
    exact hQ _ _ _ _ _ _ hW dX0_hasFrame_17 (by rw [m_X0_hasFrame_r, if_pos c_1]) rfl
  · refine lv_iload_n hx hb dX0_hasFrame_4 rfl (lv_at hl 1 rfl) ?_
    refine lv_aload_n hx hb dX0_hasFrame_5 rfl (lv_at hl 0 rfl) ?_
    refine k_get X hW inG0 rfl 3 (by decide) fl_X0_28 rfl 0 rfl (v := .int (u 0 3)) rfl dX0_hasFrame_6 ?_
    refine lv_icmp_ge (tgt := 16) hx hb dX0_hasFrame_9 (by decide) (fun c_2 => ?_) (fun c_2 => ?_)
    · refine lv_iconst (v := nI 0) hx hb dX0_hasFrame_16 (by decide +kernel) ?_
      exact hQ _ _ _ _ _ _ hW dX0_hasFrame_17 (by rw [m_X0_hasFrame_r, if_neg c_1, if_pos c_2]) rfl
    · refine lv_iconst (v := nI 1) hx hb dX0_hasFrame_12 (by decide +kernel) ?_
      refine lv_goto (tgt := 17) hx hb dX0_hasFrame_13 (by decide) ?_
      exact hQ _ _ _ _ _ _ hW dX0_hasFrame_17 (by rw [m_X0_hasFrame_r, if_neg c_1, if_neg c_2]) rfl
def m_X0_rowLength_r (u : CS) : Int32 := if (m_X3_isCalled_r (u 6)) = 0 then (if (m_X3_isCalled_r (u 7)) = 0 then (if (m_X3_isCalled_r (u 8)) = 0 then nI 0 else nI 1) else if (m_X3_isCalled_r (u 8)) = 0 then nI 1 else nI 2) else if (m_X3_isCalled_r (u 7)) = 0 then (if (m_X3_isCalled_r (u 8)) = 0 then nI 1 else nI 2) else if (m_X3_isCalled_r (u 8)) = 0 then nI 2 else nI 3
set_option maxHeartbeats 4000000 in
set_option maxRecDepth 100000 in
theorem c_X0_rowLength (l : Launch) (D : va_G) (k : Nat → ClassId) (a : Nat → Nat) (u : CS)   : mI l yX0_rowLength (wsY yX0_rowLength cX0_rowLength 6 (some .int)) 1 D k [.ref (a 0)] (cardW k a u) (cardW k a u) (m_X0_rowLength_r u) := by
  refine mI_intro rfl (Nat.le_of_ble_eq_true rfl) (Or.inl rfl) ?_
  intro p e s m args below meth c A Q ls X hW hl hQ
  have hx := X.hx
  have hb := X.hb
  have hl : lv_has ls 6 [(0, .ref (a 0))] := hl
  refine lv_iconst (v := nI 0) hx hb dX0_rowLength_0 (by decide +kernel) ?_
  refine lv_istore_n (lv' := [(1, .int (nI 0)), (0, .ref (a 0))]) hx hb dX0_rowLength_1 rfl hl (by decide) rfl (fun ls hl => ?_)
  refine lv_aload_n hx hb dX0_rowLength_2 rfl (lv_at hl 1 rfl) ?_
  refine k_get X hW inG0 rfl 1 (by decide) fl_X0_20 rfl 0 rfl (v := .ref (a 2)) rfl dX0_rowLength_3 ?_
  refine lv_astore_n (lv' := [(2, .ref (a 2)), (1, .int (nI 0)), (0, .ref (a 0))]) hx hb dX0_rowLength_6 rfl hl (by decide) rfl (fun ls hl => ?_)
  refine lv_aload_n hx hb dX0_rowLength_7 rfl (lv_at hl 0 rfl) ?_
  refine k_alen X hW 2 1 rfl rfl (v := nI 3) rfl dX0_rowLength_8 ?_
  refine lv_istore_n (lv' := [(3, .int (nI 3)), (2, .ref (a 2)), (1, .int (nI 0)), (0, .ref (a 0))]) hx hb dX0_rowLength_9 rfl hl (by decide) rfl (fun ls hl => ?_)
  refine lv_iconst (v := nI 0) hx hb dX0_rowLength_10 (by decide +kernel) ?_
  refine lv_istore (lv' := [(4, .int (nI 0)), (3, .int (nI 3)), (2, .ref (a 2)), (1, .int (nI 0)), (0, .ref (a 0))]) hx hb dX0_rowLength_11 hl (by decide) rfl (fun ls hl => ?_)
  refine lv_iload hx hb dX0_rowLength_13 (lv_at hl 0 rfl) ?_
  refine lv_iload_n hx hb dX0_rowLength_15 rfl (lv_at hl 1 rfl) ?_
  refine lv_icmp_ge (tgt := 47) hx hb dX0_rowLength_16 (by decide) (fun c => absurd c (by decide +kernel)) (fun _ => ?_)
  refine lv_aload_n hx hb dX0_rowLength_19 rfl (lv_at hl 2 rfl) ?_
  refine lv_iload hx hb dX0_rowLength_20 (lv_at hl 0 rfl) ?_
  refine k_aald X hW 2 1 rfl rfl (j := 0) (b := a 7) rfl (by decide) (by decide) rfl dX0_rowLength_22 ?_
  refine lv_astore (lv' := [(5, .ref (a 7)), (4, .int (nI 0)), (3, .int (nI 3)), (2, .ref (a 2)), (1, .int (nI 0)), (0, .ref (a 0))]) hx hb dX0_rowLength_23 hl (by decide) rfl (fun ls hl => ?_)
  refine lv_iload_n hx hb dX0_rowLength_25 rfl (lv_at hl 4 rfl) ?_
  refine lv_aload hx hb dX0_rowLength_26 (lv_at hl 0 rfl) ?_
  obtain ⟨z_2, hz_2⟩ : ∃ z, m_X3_isCalled_r (u 6) = z := ⟨_, rfl⟩
  have hM_3 := (c_X3_isCalled l D k (a 7) (u 6) )
  rw [hz_2] at hM_3
  refine kNi (As := []) (rest := [.int (nI 0)]) X hW hM_3 yw_X3_isCalled lkn_X0_89 ⟨Nat.le_of_ble_eq_true rfl, Nat.le_of_ble_eq_true rfl⟩ (wr := [cO a u, cSe k a u, cQs k a, cFl k a u, cCa k a u, cHo k a u, cTa k a u, qC (a 8) (u 7), qC (a 9) (u 8)]) (w_idx (n := 10) [0, 1, 2, 3, 4, 5, 6, 8, 9, 7] rfl (by decide) rfl) (w' := cardW k a u) (w_idx (n := 10) [0, 1, 2, 3, 4, 5, 6, 9, 7, 8] rfl (by decide) rfl) (k_rcv X hW (ci := 3) (q0 := 7) rfl rfl) rfl hl.1 rfl (Nat.le_of_ble_eq_true rfl) ⟨Nat.zero_le _, Nat.zero_le _⟩ dX0_rowLength_28 (fun H locs hW => ?_)
  refine lv_if_eq (tgt := 38) hx hb dX0_rowLength_31 (by decide) (fun c_4 => ?_) (fun c_4 => ?_)
  · refine lv_iconst (v := nI 0) hx hb dX0_rowLength_38 (by decide +kernel) ?_
    refine lv_iadd hx hb dX0_rowLength_39 ?_
    refine k_top (y := nI 0) (by decide +kernel) ?_
    refine lv_istore_n (lv' := [(1, .int (nI 0)), (5, .ref (a 7)), (4, .int (nI 0)), (3, .int (nI 3)), (2, .ref (a 2)), (0, .ref (a 0))]) hx hb dX0_rowLength_40 rfl hl (by decide) rfl (fun ls hl => ?_)
    refine lv_iinc (v := nI 1) (lv' := [(4, .int (nI 1)), (1, .int (nI 0)), (5, .ref (a 7)), (3, .int (nI 3)), (2, .ref (a 2)), (0, .ref (a 0))]) hx hb dX0_rowLength_41 hl (k := 2) rfl (k_inc _) (by decide) rfl (fun ls hl => ?_)
    refine lv_goto (tgt := 13) hx hb dX0_rowLength_44 (by decide) ?_
    refine lv_iload hx hb dX0_rowLength_13 (lv_at hl 0 rfl) ?_
    refine lv_iload_n hx hb dX0_rowLength_15 rfl (lv_at hl 3 rfl) ?_
    refine lv_icmp_ge (tgt := 47) hx hb dX0_rowLength_16 (by decide) (fun c => absurd c (by decide +kernel)) (fun _ => ?_)
    refine lv_aload_n hx hb dX0_rowLength_19 rfl (lv_at hl 4 rfl) ?_
    refine lv_iload hx hb dX0_rowLength_20 (lv_at hl 0 rfl) ?_
    refine k_aald X hW 2 1 rfl rfl (j := 1) (b := a 8) rfl (by decide) (by decide) rfl dX0_rowLength_22 ?_
    refine lv_astore (lv' := [(5, .ref (a 8)), (4, .int (nI 1)), (1, .int (nI 0)), (3, .int (nI 3)), (2, .ref (a 2)), (0, .ref (a 0))]) hx hb dX0_rowLength_23 hl (by decide) rfl (fun ls hl => ?_)
    refine lv_iload_n hx hb dX0_rowLength_25 rfl (lv_at hl 2 rfl) ?_
    refine lv_aload hx hb dX0_rowLength_26 (lv_at hl 0 rfl) ?_
    obtain ⟨z_6, hz_6⟩ : ∃ z, m_X3_isCalled_r (u 7) = z := ⟨_, rfl⟩
    have hM_7 := (c_X3_isCalled l D k (a 8) (u 7) )
    rw [hz_6] at hM_7
    refine kNi (As := []) (rest := [.int (nI 0)]) X hW hM_7 yw_X3_isCalled lkn_X0_89 ⟨Nat.le_of_ble_eq_true rfl, Nat.le_of_ble_eq_true rfl⟩ (wr := [cO a u, cSe k a u, cQs k a, cFl k a u, cCa k a u, cHo k a u, cTa k a u, qC (a 7) (u 6), qC (a 9) (u 8)]) (w_idx (n := 10) [0, 1, 2, 3, 4, 5, 6, 7, 9, 8] rfl (by decide) rfl) (w' := cardW k a u) (w_idx (n := 10) [0, 1, 2, 3, 4, 5, 6, 7, 9, 8] rfl (by decide) rfl) (k_rcv X hW (ci := 3) (q0 := 8) rfl rfl) rfl hl.1 rfl (Nat.le_of_ble_eq_true rfl) ⟨Nat.zero_le _, Nat.zero_le _⟩ dX0_rowLength_28 (fun H locs hW => ?_)
    refine lv_if_eq (tgt := 38) hx hb dX0_rowLength_31 (by decide) (fun c_8 => ?_) (fun c_8 => ?_)
    · refine lv_iconst (v := nI 0) hx hb dX0_rowLength_38 (by decide +kernel) ?_
      refine lv_iadd hx hb dX0_rowLength_39 ?_
      refine k_top (y := nI 0) (by decide +kernel) ?_
      refine lv_istore_n (lv' := [(1, .int (nI 0)), (5, .ref (a 8)), (4, .int (nI 1)), (3, .int (nI 3)), (2, .ref (a 2)), (0, .ref (a 0))]) hx hb dX0_rowLength_40 rfl hl (by decide) rfl (fun ls hl => ?_)
      refine lv_iinc (v := nI 2) (lv' := [(4, .int (nI 2)), (1, .int (nI 0)), (5, .ref (a 8)), (3, .int (nI 3)), (2, .ref (a 2)), (0, .ref (a 0))]) hx hb dX0_rowLength_41 hl (k := 2) rfl (k_inc _) (by decide) rfl (fun ls hl => ?_)
      refine lv_goto (tgt := 13) hx hb dX0_rowLength_44 (by decide) ?_
      refine lv_iload hx hb dX0_rowLength_13 (lv_at hl 0 rfl) ?_
      refine lv_iload_n hx hb dX0_rowLength_15 rfl (lv_at hl 3 rfl) ?_
      refine lv_icmp_ge (tgt := 47) hx hb dX0_rowLength_16 (by decide) (fun c => absurd c (by decide +kernel)) (fun _ => ?_)
      refine lv_aload_n hx hb dX0_rowLength_19 rfl (lv_at hl 4 rfl) ?_
      refine lv_iload hx hb dX0_rowLength_20 (lv_at hl 0 rfl) ?_
      refine k_aald X hW 2 1 rfl rfl (j := 2) (b := a 9) rfl (by decide) (by decide) rfl dX0_rowLength_22 ?_
      refine lv_astore (lv' := [(5, .ref (a 9)), (4, .int (nI 2)), (1, .int (nI 0)), (3, .int (nI 3)), (2, .ref (a 2)), (0, .ref (a 0))]) hx hb dX0_rowLength_23 hl (by decide) rfl (fun ls hl => ?_)
      refine lv_iload_n hx hb dX0_rowLength_25 rfl (lv_at hl 2 rfl) ?_
      refine lv_aload hx hb dX0_rowLength_26 (lv_at hl 0 rfl) ?_
      obtain ⟨z_10, hz_10⟩ : ∃ z, m_X3_isCalled_r (u 8) = z := ⟨_, rfl⟩
      have hM_11 := (c_X3_isCalled l D k (a 9) (u 8) )
      rw [hz_10] at hM_11
      refine kNi (As := []) (rest := [.int (nI 0)]) X hW hM_11 yw_X3_isCalled lkn_X0_89 ⟨Nat.le_of_ble_eq_true rfl, Nat.le_of_ble_eq_true rfl⟩ (wr := [cO a u, cSe k a u, cQs k a, cFl k a u, cCa k a u, cHo k a u, cTa k a u, qC (a 7) (u 6), qC (a 8) (u 7)]) (w_idx (n := 10) [0, 1, 2, 3, 4, 5, 6, 7, 8, 9] rfl (by decide) rfl) (w' := cardW k a u) (w_idx (n := 10) [0, 1, 2, 3, 4, 5, 6, 7, 8, 9] rfl (by decide) rfl) (k_rcv X hW (ci := 3) (q0 := 9) rfl rfl) rfl hl.1 rfl (Nat.le_of_ble_eq_true rfl) ⟨Nat.zero_le _, Nat.zero_le _⟩ dX0_rowLength_28 (fun H locs hW => ?_)
      refine lv_if_eq (tgt := 38) hx hb dX0_rowLength_31 (by decide) (fun c_12 => ?_) (fun c_12 => ?_)
      · refine lv_iconst (v := nI 0) hx hb dX0_rowLength_38 (by decide +kernel) ?_
        refine lv_iadd hx hb dX0_rowLength_39 ?_
        refine k_top (y := nI 0) (by decide +kernel) ?_
        refine lv_istore_n (lv' := [(1, .int (nI 0)), (5, .ref (a 9)), (4, .int (nI 2)), (3, .int (nI 3)), (2, .ref (a 2)), (0, .ref (a 0))]) hx hb dX0_rowLength_40 rfl hl (by decide) rfl (fun ls hl => ?_)
        refine lv_iinc (v := nI 3) (lv' := [(4, .int (nI 3)), (1, .int (nI 0)), (5, .ref (a 9)), (3, .int (nI 3)), (2, .ref (a 2)), (0, .ref (a 0))]) hx hb dX0_rowLength_41 hl (k := 2) rfl (k_inc _) (by decide) rfl (fun ls hl => ?_)
        refine lv_goto (tgt := 13) hx hb dX0_rowLength_44 (by decide) ?_
        refine lv_iload hx hb dX0_rowLength_13 (lv_at hl 0 rfl) ?_
        refine lv_iload_n hx hb dX0_rowLength_15 rfl (lv_at hl 3 rfl) ?_
        refine lv_icmp_ge (tgt := 47) hx hb dX0_rowLength_16 (by decide) (fun _ => ?_) (fun c => absurd (by decide +kernel) c)
        refine lv_iload_n hx hb dX0_rowLength_47 rfl (lv_at hl 1 rfl) ?_
        exact hQ _ _ _ _ _ _ hW dX0_rowLength_48 (by subst hz_10; subst hz_6; subst hz_2; rw [m_X0_rowLength_r, if_pos c_4, if_pos c_8, if_pos c_12]) rfl
      · refine lv_iconst (v := nI 1) hx hb dX0_rowLength_34 (by decide +kernel) ?_
        refine lv_goto (tgt := 39) hx hb dX0_rowLength_35 (by decide) ?_
        refine lv_iadd hx hb dX0_rowLength_39 ?_
        refine k_top (y := nI 1) (by decide +kernel) ?_
        refine lv_istore_n (lv' := [(1, .int (nI 1)), (5, .ref (a 9)), (4, .int (nI 2)), (3, .int (nI 3)), (2, .ref (a 2)), (0, .ref (a 0))]) hx hb dX0_rowLength_40 rfl hl (by decide) rfl (fun ls hl => ?_)
        refine lv_iinc (v := nI 3) (lv' := [(4, .int (nI 3)), (1, .int (nI 1)), (5, .ref (a 9)), (3, .int (nI 3)), (2, .ref (a 2)), (0, .ref (a 0))]) hx hb dX0_rowLength_41 hl (k := 2) rfl (k_inc _) (by decide) rfl (fun ls hl => ?_)
        refine lv_goto (tgt := 13) hx hb dX0_rowLength_44 (by decide) ?_
        refine lv_iload hx hb dX0_rowLength_13 (lv_at hl 0 rfl) ?_
        refine lv_iload_n hx hb dX0_rowLength_15 rfl (lv_at hl 3 rfl) ?_
        refine lv_icmp_ge (tgt := 47) hx hb dX0_rowLength_16 (by decide) (fun _ => ?_) (fun c => absurd (by decide +kernel) c)
        refine lv_iload_n hx hb dX0_rowLength_47 rfl (lv_at hl 1 rfl) ?_
        exact hQ _ _ _ _ _ _ hW dX0_rowLength_48 (by subst hz_10; subst hz_6; subst hz_2; rw [m_X0_rowLength_r, if_pos c_4, if_pos c_8, if_neg c_12]) rfl
    · refine lv_iconst (v := nI 1) hx hb dX0_rowLength_34 (by decide +kernel) ?_
      refine lv_goto (tgt := 39) hx hb dX0_rowLength_35 (by decide) ?_
      refine lv_iadd hx hb dX0_rowLength_39 ?_
      refine k_top (y := nI 1) (by decide +kernel) ?_
      refine lv_istore_n (lv' := [(1, .int (nI 1)), (5, .ref (a 8)), (4, .int (nI 1)), (3, .int (nI 3)), (2, .ref (a 2)), (0, .ref (a 0))]) hx hb dX0_rowLength_40 rfl hl (by decide) rfl (fun ls hl => ?_)
      refine lv_iinc (v := nI 2) (lv' := [(4, .int (nI 2)), (1, .int (nI 1)), (5, .ref (a 8)), (3, .int (nI 3)), (2, .ref (a 2)), (0, .ref (a 0))]) hx hb dX0_rowLength_41 hl (k := 2) rfl (k_inc _) (by decide) rfl (fun ls hl => ?_)
      refine lv_goto (tgt := 13) hx hb dX0_rowLength_44 (by decide) ?_
      refine lv_iload hx hb dX0_rowLength_13 (lv_at hl 0 rfl) ?_
      refine lv_iload_n hx hb dX0_rowLength_15 rfl (lv_at hl 3 rfl) ?_
      refine lv_icmp_ge (tgt := 47) hx hb dX0_rowLength_16 (by decide) (fun c => absurd c (by decide +kernel)) (fun _ => ?_)
      refine lv_aload_n hx hb dX0_rowLength_19 rfl (lv_at hl 4 rfl) ?_
      refine lv_iload hx hb dX0_rowLength_20 (lv_at hl 0 rfl) ?_
      refine k_aald X hW 2 1 rfl rfl (j := 2) (b := a 9) rfl (by decide) (by decide) rfl dX0_rowLength_22 ?_
      refine lv_astore (lv' := [(5, .ref (a 9)), (4, .int (nI 2)), (1, .int (nI 1)), (3, .int (nI 3)), (2, .ref (a 2)), (0, .ref (a 0))]) hx hb dX0_rowLength_23 hl (by decide) rfl (fun ls hl => ?_)
      refine lv_iload_n hx hb dX0_rowLength_25 rfl (lv_at hl 2 rfl) ?_
      refine lv_aload hx hb dX0_rowLength_26 (lv_at hl 0 rfl) ?_
      obtain ⟨z_16, hz_16⟩ : ∃ z, m_X3_isCalled_r (u 8) = z := ⟨_, rfl⟩
      have hM_17 := (c_X3_isCalled l D k (a 9) (u 8) )
      rw [hz_16] at hM_17
      refine kNi (As := []) (rest := [.int (nI 1)]) X hW hM_17 yw_X3_isCalled lkn_X0_89 ⟨Nat.le_of_ble_eq_true rfl, Nat.le_of_ble_eq_true rfl⟩ (wr := [cO a u, cSe k a u, cQs k a, cFl k a u, cCa k a u, cHo k a u, cTa k a u, qC (a 7) (u 6), qC (a 8) (u 7)]) (w_idx (n := 10) [0, 1, 2, 3, 4, 5, 6, 7, 8, 9] rfl (by decide) rfl) (w' := cardW k a u) (w_idx (n := 10) [0, 1, 2, 3, 4, 5, 6, 7, 8, 9] rfl (by decide) rfl) (k_rcv X hW (ci := 3) (q0 := 9) rfl rfl) rfl hl.1 rfl (Nat.le_of_ble_eq_true rfl) ⟨Nat.zero_le _, Nat.zero_le _⟩ dX0_rowLength_28 (fun H locs hW => ?_)
      refine lv_if_eq (tgt := 38) hx hb dX0_rowLength_31 (by decide) (fun c_18 => ?_) (fun c_18 => ?_)
      · refine lv_iconst (v := nI 0) hx hb dX0_rowLength_38 (by decide +kernel) ?_
        refine lv_iadd hx hb dX0_rowLength_39 ?_
        refine k_top (y := nI 1) (by decide +kernel) ?_
        refine lv_istore_n (lv' := [(1, .int (nI 1)), (5, .ref (a 9)), (4, .int (nI 2)), (3, .int (nI 3)), (2, .ref (a 2)), (0, .ref (a 0))]) hx hb dX0_rowLength_40 rfl hl (by decide) rfl (fun ls hl => ?_)
        refine lv_iinc (v := nI 3) (lv' := [(4, .int (nI 3)), (1, .int (nI 1)), (5, .ref (a 9)), (3, .int (nI 3)), (2, .ref (a 2)), (0, .ref (a 0))]) hx hb dX0_rowLength_41 hl (k := 2) rfl (k_inc _) (by decide) rfl (fun ls hl => ?_)
        refine lv_goto (tgt := 13) hx hb dX0_rowLength_44 (by decide) ?_
        refine lv_iload hx hb dX0_rowLength_13 (lv_at hl 0 rfl) ?_
        refine lv_iload_n hx hb dX0_rowLength_15 rfl (lv_at hl 3 rfl) ?_
        refine lv_icmp_ge (tgt := 47) hx hb dX0_rowLength_16 (by decide) (fun _ => ?_) (fun c => absurd (by decide +kernel) c)
        refine lv_iload_n hx hb dX0_rowLength_47 rfl (lv_at hl 1 rfl) ?_
        exact hQ _ _ _ _ _ _ hW dX0_rowLength_48 (by subst hz_16; subst hz_6; subst hz_2; rw [m_X0_rowLength_r, if_pos c_4, if_neg c_8, if_pos c_18]) rfl
      · refine lv_iconst (v := nI 1) hx hb dX0_rowLength_34 (by decide +kernel) ?_
        refine lv_goto (tgt := 39) hx hb dX0_rowLength_35 (by decide) ?_
        refine lv_iadd hx hb dX0_rowLength_39 ?_
        refine k_top (y := nI 2) (by decide +kernel) ?_
        refine lv_istore_n (lv' := [(1, .int (nI 2)), (5, .ref (a 9)), (4, .int (nI 2)), (3, .int (nI 3)), (2, .ref (a 2)), (0, .ref (a 0))]) hx hb dX0_rowLength_40 rfl hl (by decide) rfl (fun ls hl => ?_)
        refine lv_iinc (v := nI 3) (lv' := [(4, .int (nI 3)), (1, .int (nI 2)), (5, .ref (a 9)), (3, .int (nI 3)), (2, .ref (a 2)), (0, .ref (a 0))]) hx hb dX0_rowLength_41 hl (k := 2) rfl (k_inc _) (by decide) rfl (fun ls hl => ?_)
        refine lv_goto (tgt := 13) hx hb dX0_rowLength_44 (by decide) ?_
        refine lv_iload hx hb dX0_rowLength_13 (lv_at hl 0 rfl) ?_
        refine lv_iload_n hx hb dX0_rowLength_15 rfl (lv_at hl 3 rfl) ?_
        refine lv_icmp_ge (tgt := 47) hx hb dX0_rowLength_16 (by decide) (fun _ => ?_) (fun c => absurd (by decide +kernel) c)
        refine lv_iload_n hx hb dX0_rowLength_47 rfl (lv_at hl 1 rfl) ?_
        exact hQ _ _ _ _ _ _ hW dX0_rowLength_48 (by subst hz_16; subst hz_6; subst hz_2; rw [m_X0_rowLength_r, if_pos c_4, if_neg c_8, if_neg c_18]) rfl
  · refine lv_iconst (v := nI 1) hx hb dX0_rowLength_34 (by decide +kernel) ?_
    refine lv_goto (tgt := 39) hx hb dX0_rowLength_35 (by decide) ?_
    refine lv_iadd hx hb dX0_rowLength_39 ?_
    refine k_top (y := nI 1) (by decide +kernel) ?_
    refine lv_istore_n (lv' := [(1, .int (nI 1)), (5, .ref (a 7)), (4, .int (nI 0)), (3, .int (nI 3)), (2, .ref (a 2)), (0, .ref (a 0))]) hx hb dX0_rowLength_40 rfl hl (by decide) rfl (fun ls hl => ?_)
    refine lv_iinc (v := nI 1) (lv' := [(4, .int (nI 1)), (1, .int (nI 1)), (5, .ref (a 7)), (3, .int (nI 3)), (2, .ref (a 2)), (0, .ref (a 0))]) hx hb dX0_rowLength_41 hl (k := 2) rfl (k_inc _) (by decide) rfl (fun ls hl => ?_)
    refine lv_goto (tgt := 13) hx hb dX0_rowLength_44 (by decide) ?_
    refine lv_iload hx hb dX0_rowLength_13 (lv_at hl 0 rfl) ?_
    refine lv_iload_n hx hb dX0_rowLength_15 rfl (lv_at hl 3 rfl) ?_
    refine lv_icmp_ge (tgt := 47) hx hb dX0_rowLength_16 (by decide) (fun c => absurd c (by decide +kernel)) (fun _ => ?_)
    refine lv_aload_n hx hb dX0_rowLength_19 rfl (lv_at hl 4 rfl) ?_
    refine lv_iload hx hb dX0_rowLength_20 (lv_at hl 0 rfl) ?_
    refine k_aald X hW 2 1 rfl rfl (j := 1) (b := a 8) rfl (by decide) (by decide) rfl dX0_rowLength_22 ?_
    refine lv_astore (lv' := [(5, .ref (a 8)), (4, .int (nI 1)), (1, .int (nI 1)), (3, .int (nI 3)), (2, .ref (a 2)), (0, .ref (a 0))]) hx hb dX0_rowLength_23 hl (by decide) rfl (fun ls hl => ?_)
    refine lv_iload_n hx hb dX0_rowLength_25 rfl (lv_at hl 2 rfl) ?_
    refine lv_aload hx hb dX0_rowLength_26 (lv_at hl 0 rfl) ?_
    obtain ⟨z_22, hz_22⟩ : ∃ z, m_X3_isCalled_r (u 7) = z := ⟨_, rfl⟩
    have hM_23 := (c_X3_isCalled l D k (a 8) (u 7) )
    rw [hz_22] at hM_23
    refine kNi (As := []) (rest := [.int (nI 1)]) X hW hM_23 yw_X3_isCalled lkn_X0_89 ⟨Nat.le_of_ble_eq_true rfl, Nat.le_of_ble_eq_true rfl⟩ (wr := [cO a u, cSe k a u, cQs k a, cFl k a u, cCa k a u, cHo k a u, cTa k a u, qC (a 7) (u 6), qC (a 9) (u 8)]) (w_idx (n := 10) [0, 1, 2, 3, 4, 5, 6, 7, 9, 8] rfl (by decide) rfl) (w' := cardW k a u) (w_idx (n := 10) [0, 1, 2, 3, 4, 5, 6, 7, 9, 8] rfl (by decide) rfl) (k_rcv X hW (ci := 3) (q0 := 8) rfl rfl) rfl hl.1 rfl (Nat.le_of_ble_eq_true rfl) ⟨Nat.zero_le _, Nat.zero_le _⟩ dX0_rowLength_28 (fun H locs hW => ?_)
    refine lv_if_eq (tgt := 38) hx hb dX0_rowLength_31 (by decide) (fun c_24 => ?_) (fun c_24 => ?_)
    · refine lv_iconst (v := nI 0) hx hb dX0_rowLength_38 (by decide +kernel) ?_
      refine lv_iadd hx hb dX0_rowLength_39 ?_
      refine k_top (y := nI 1) (by decide +kernel) ?_
      refine lv_istore_n (lv' := [(1, .int (nI 1)), (5, .ref (a 8)), (4, .int (nI 1)), (3, .int (nI 3)), (2, .ref (a 2)), (0, .ref (a 0))]) hx hb dX0_rowLength_40 rfl hl (by decide) rfl (fun ls hl => ?_)
      refine lv_iinc (v := nI 2) (lv' := [(4, .int (nI 2)), (1, .int (nI 1)), (5, .ref (a 8)), (3, .int (nI 3)), (2, .ref (a 2)), (0, .ref (a 0))]) hx hb dX0_rowLength_41 hl (k := 2) rfl (k_inc _) (by decide) rfl (fun ls hl => ?_)
      refine lv_goto (tgt := 13) hx hb dX0_rowLength_44 (by decide) ?_
      refine lv_iload hx hb dX0_rowLength_13 (lv_at hl 0 rfl) ?_
      refine lv_iload_n hx hb dX0_rowLength_15 rfl (lv_at hl 3 rfl) ?_
      refine lv_icmp_ge (tgt := 47) hx hb dX0_rowLength_16 (by decide) (fun c => absurd c (by decide +kernel)) (fun _ => ?_)
      refine lv_aload_n hx hb dX0_rowLength_19 rfl (lv_at hl 4 rfl) ?_
      refine lv_iload hx hb dX0_rowLength_20 (lv_at hl 0 rfl) ?_
      refine k_aald X hW 2 1 rfl rfl (j := 2) (b := a 9) rfl (by decide) (by decide) rfl dX0_rowLength_22 ?_
      refine lv_astore (lv' := [(5, .ref (a 9)), (4, .int (nI 2)), (1, .int (nI 1)), (3, .int (nI 3)), (2, .ref (a 2)), (0, .ref (a 0))]) hx hb dX0_rowLength_23 hl (by decide) rfl (fun ls hl => ?_)
      refine lv_iload_n hx hb dX0_rowLength_25 rfl (lv_at hl 2 rfl) ?_
      refine lv_aload hx hb dX0_rowLength_26 (lv_at hl 0 rfl) ?_
      obtain ⟨z_26, hz_26⟩ : ∃ z, m_X3_isCalled_r (u 8) = z := ⟨_, rfl⟩
      have hM_27 := (c_X3_isCalled l D k (a 9) (u 8) )
      rw [hz_26] at hM_27
      refine kNi (As := []) (rest := [.int (nI 1)]) X hW hM_27 yw_X3_isCalled lkn_X0_89 ⟨Nat.le_of_ble_eq_true rfl, Nat.le_of_ble_eq_true rfl⟩ (wr := [cO a u, cSe k a u, cQs k a, cFl k a u, cCa k a u, cHo k a u, cTa k a u, qC (a 7) (u 6), qC (a 8) (u 7)]) (w_idx (n := 10) [0, 1, 2, 3, 4, 5, 6, 7, 8, 9] rfl (by decide) rfl) (w' := cardW k a u) (w_idx (n := 10) [0, 1, 2, 3, 4, 5, 6, 7, 8, 9] rfl (by decide) rfl) (k_rcv X hW (ci := 3) (q0 := 9) rfl rfl) rfl hl.1 rfl (Nat.le_of_ble_eq_true rfl) ⟨Nat.zero_le _, Nat.zero_le _⟩ dX0_rowLength_28 (fun H locs hW => ?_)
      refine lv_if_eq (tgt := 38) hx hb dX0_rowLength_31 (by decide) (fun c_28 => ?_) (fun c_28 => ?_)
      · refine lv_iconst (v := nI 0) hx hb dX0_rowLength_38 (by decide +kernel) ?_
        refine lv_iadd hx hb dX0_rowLength_39 ?_
        refine k_top (y := nI 1) (by decide +kernel) ?_
        refine lv_istore_n (lv' := [(1, .int (nI 1)), (5, .ref (a 9)), (4, .int (nI 2)), (3, .int (nI 3)), (2, .ref (a 2)), (0, .ref (a 0))]) hx hb dX0_rowLength_40 rfl hl (by decide) rfl (fun ls hl => ?_)
        refine lv_iinc (v := nI 3) (lv' := [(4, .int (nI 3)), (1, .int (nI 1)), (5, .ref (a 9)), (3, .int (nI 3)), (2, .ref (a 2)), (0, .ref (a 0))]) hx hb dX0_rowLength_41 hl (k := 2) rfl (k_inc _) (by decide) rfl (fun ls hl => ?_)
        refine lv_goto (tgt := 13) hx hb dX0_rowLength_44 (by decide) ?_
        refine lv_iload hx hb dX0_rowLength_13 (lv_at hl 0 rfl) ?_
        refine lv_iload_n hx hb dX0_rowLength_15 rfl (lv_at hl 3 rfl) ?_
        refine lv_icmp_ge (tgt := 47) hx hb dX0_rowLength_16 (by decide) (fun _ => ?_) (fun c => absurd (by decide +kernel) c)
        refine lv_iload_n hx hb dX0_rowLength_47 rfl (lv_at hl 1 rfl) ?_
        exact hQ _ _ _ _ _ _ hW dX0_rowLength_48 (by subst hz_26; subst hz_22; subst hz_2; rw [m_X0_rowLength_r, if_neg c_4, if_pos c_24, if_pos c_28]) rfl
      · refine lv_iconst (v := nI 1) hx hb dX0_rowLength_34 (by decide +kernel) ?_
        refine lv_goto (tgt := 39) hx hb dX0_rowLength_35 (by decide) ?_
        refine lv_iadd hx hb dX0_rowLength_39 ?_
        refine k_top (y := nI 2) (by decide +kernel) ?_
        refine lv_istore_n (lv' := [(1, .int (nI 2)), (5, .ref (a 9)), (4, .int (nI 2)), (3, .int (nI 3)), (2, .ref (a 2)), (0, .ref (a 0))]) hx hb dX0_rowLength_40 rfl hl (by decide) rfl (fun ls hl => ?_)
        refine lv_iinc (v := nI 3) (lv' := [(4, .int (nI 3)), (1, .int (nI 2)), (5, .ref (a 9)), (3, .int (nI 3)), (2, .ref (a 2)), (0, .ref (a 0))]) hx hb dX0_rowLength_41 hl (k := 2) rfl (k_inc _) (by decide) rfl (fun ls hl => ?_)
        refine lv_goto (tgt := 13) hx hb dX0_rowLength_44 (by decide) ?_
        refine lv_iload hx hb dX0_rowLength_13 (lv_at hl 0 rfl) ?_
        refine lv_iload_n hx hb dX0_rowLength_15 rfl (lv_at hl 3 rfl) ?_
        refine lv_icmp_ge (tgt := 47) hx hb dX0_rowLength_16 (by decide) (fun _ => ?_) (fun c => absurd (by decide +kernel) c)
        refine lv_iload_n hx hb dX0_rowLength_47 rfl (lv_at hl 1 rfl) ?_
        exact hQ _ _ _ _ _ _ hW dX0_rowLength_48 (by subst hz_26; subst hz_22; subst hz_2; rw [m_X0_rowLength_r, if_neg c_4, if_pos c_24, if_neg c_28]) rfl
    · refine lv_iconst (v := nI 1) hx hb dX0_rowLength_34 (by decide +kernel) ?_
      refine lv_goto (tgt := 39) hx hb dX0_rowLength_35 (by decide) ?_
      refine lv_iadd hx hb dX0_rowLength_39 ?_
      refine k_top (y := nI 2) (by decide +kernel) ?_
      refine lv_istore_n (lv' := [(1, .int (nI 2)), (5, .ref (a 8)), (4, .int (nI 1)), (3, .int (nI 3)), (2, .ref (a 2)), (0, .ref (a 0))]) hx hb dX0_rowLength_40 rfl hl (by decide) rfl (fun ls hl => ?_)
      refine lv_iinc (v := nI 2) (lv' := [(4, .int (nI 2)), (1, .int (nI 2)), (5, .ref (a 8)), (3, .int (nI 3)), (2, .ref (a 2)), (0, .ref (a 0))]) hx hb dX0_rowLength_41 hl (k := 2) rfl (k_inc _) (by decide) rfl (fun ls hl => ?_)
      refine lv_goto (tgt := 13) hx hb dX0_rowLength_44 (by decide) ?_
      refine lv_iload hx hb dX0_rowLength_13 (lv_at hl 0 rfl) ?_
      refine lv_iload_n hx hb dX0_rowLength_15 rfl (lv_at hl 3 rfl) ?_
      refine lv_icmp_ge (tgt := 47) hx hb dX0_rowLength_16 (by decide) (fun c => absurd c (by decide +kernel)) (fun _ => ?_)
      refine lv_aload_n hx hb dX0_rowLength_19 rfl (lv_at hl 4 rfl) ?_
      refine lv_iload hx hb dX0_rowLength_20 (lv_at hl 0 rfl) ?_
      refine k_aald X hW 2 1 rfl rfl (j := 2) (b := a 9) rfl (by decide) (by decide) rfl dX0_rowLength_22 ?_
      refine lv_astore (lv' := [(5, .ref (a 9)), (4, .int (nI 2)), (1, .int (nI 2)), (3, .int (nI 3)), (2, .ref (a 2)), (0, .ref (a 0))]) hx hb dX0_rowLength_23 hl (by decide) rfl (fun ls hl => ?_)
      refine lv_iload_n hx hb dX0_rowLength_25 rfl (lv_at hl 2 rfl) ?_
      refine lv_aload hx hb dX0_rowLength_26 (lv_at hl 0 rfl) ?_
      obtain ⟨z_32, hz_32⟩ : ∃ z, m_X3_isCalled_r (u 8) = z := ⟨_, rfl⟩
      have hM_33 := (c_X3_isCalled l D k (a 9) (u 8) )
      rw [hz_32] at hM_33
      refine kNi (As := []) (rest := [.int (nI 2)]) X hW hM_33 yw_X3_isCalled lkn_X0_89 ⟨Nat.le_of_ble_eq_true rfl, Nat.le_of_ble_eq_true rfl⟩ (wr := [cO a u, cSe k a u, cQs k a, cFl k a u, cCa k a u, cHo k a u, cTa k a u, qC (a 7) (u 6), qC (a 8) (u 7)]) (w_idx (n := 10) [0, 1, 2, 3, 4, 5, 6, 7, 8, 9] rfl (by decide) rfl) (w' := cardW k a u) (w_idx (n := 10) [0, 1, 2, 3, 4, 5, 6, 7, 8, 9] rfl (by decide) rfl) (k_rcv X hW (ci := 3) (q0 := 9) rfl rfl) rfl hl.1 rfl (Nat.le_of_ble_eq_true rfl) ⟨Nat.zero_le _, Nat.zero_le _⟩ dX0_rowLength_28 (fun H locs hW => ?_)
      refine lv_if_eq (tgt := 38) hx hb dX0_rowLength_31 (by decide) (fun c_34 => ?_) (fun c_34 => ?_)
      · refine lv_iconst (v := nI 0) hx hb dX0_rowLength_38 (by decide +kernel) ?_
        refine lv_iadd hx hb dX0_rowLength_39 ?_
        refine k_top (y := nI 2) (by decide +kernel) ?_
        refine lv_istore_n (lv' := [(1, .int (nI 2)), (5, .ref (a 9)), (4, .int (nI 2)), (3, .int (nI 3)), (2, .ref (a 2)), (0, .ref (a 0))]) hx hb dX0_rowLength_40 rfl hl (by decide) rfl (fun ls hl => ?_)
        refine lv_iinc (v := nI 3) (lv' := [(4, .int (nI 3)), (1, .int (nI 2)), (5, .ref (a 9)), (3, .int (nI 3)), (2, .ref (a 2)), (0, .ref (a 0))]) hx hb dX0_rowLength_41 hl (k := 2) rfl (k_inc _) (by decide) rfl (fun ls hl => ?_)
        refine lv_goto (tgt := 13) hx hb dX0_rowLength_44 (by decide) ?_
        refine lv_iload hx hb dX0_rowLength_13 (lv_at hl 0 rfl) ?_
        refine lv_iload_n hx hb dX0_rowLength_15 rfl (lv_at hl 3 rfl) ?_
        refine lv_icmp_ge (tgt := 47) hx hb dX0_rowLength_16 (by decide) (fun _ => ?_) (fun c => absurd (by decide +kernel) c)
        refine lv_iload_n hx hb dX0_rowLength_47 rfl (lv_at hl 1 rfl) ?_
        exact hQ _ _ _ _ _ _ hW dX0_rowLength_48 (by subst hz_32; subst hz_22; subst hz_2; rw [m_X0_rowLength_r, if_neg c_4, if_neg c_24, if_pos c_34]) rfl
      · refine lv_iconst (v := nI 1) hx hb dX0_rowLength_34 (by decide +kernel) ?_
        refine lv_goto (tgt := 39) hx hb dX0_rowLength_35 (by decide) ?_
        refine lv_iadd hx hb dX0_rowLength_39 ?_
        refine k_top (y := nI 3) (by decide +kernel) ?_
        refine lv_istore_n (lv' := [(1, .int (nI 3)), (5, .ref (a 9)), (4, .int (nI 2)), (3, .int (nI 3)), (2, .ref (a 2)), (0, .ref (a 0))]) hx hb dX0_rowLength_40 rfl hl (by decide) rfl (fun ls hl => ?_)
        refine lv_iinc (v := nI 3) (lv' := [(4, .int (nI 3)), (1, .int (nI 3)), (5, .ref (a 9)), (3, .int (nI 3)), (2, .ref (a 2)), (0, .ref (a 0))]) hx hb dX0_rowLength_41 hl (k := 2) rfl (k_inc _) (by decide) rfl (fun ls hl => ?_)
        refine lv_goto (tgt := 13) hx hb dX0_rowLength_44 (by decide) ?_
        refine lv_iload hx hb dX0_rowLength_13 (lv_at hl 0 rfl) ?_
        refine lv_iload_n hx hb dX0_rowLength_15 rfl (lv_at hl 3 rfl) ?_
        refine lv_icmp_ge (tgt := 47) hx hb dX0_rowLength_16 (by decide) (fun _ => ?_) (fun c => absurd (by decide +kernel) c)
        refine lv_iload_n hx hb dX0_rowLength_47 rfl (lv_at hl 1 rfl) ?_
        exact hQ _ _ _ _ _ _ hW dX0_rowLength_48 (by subst hz_32; subst hz_22; subst hz_2; rw [m_X0_rowLength_r, if_neg c_4, if_neg c_24, if_neg c_34]) rfl
def m_X0_enterRow_0_u (u : CS) : CS := st2 u 6 (upd (upd (upd (u 6) 3 (m_X0_rowLength_r u)) 7 ((u 6 7) + (nI 1))) 12 (nI 0))
set_option maxHeartbeats 4000000 in
set_option maxRecDepth 100000 in
theorem c_X0_enterRow_0 (l : Launch) (D : va_G) (k : Nat → ClassId) (a : Nat → Nat) (u : CS)   : mV l yX0_enterRow (wsY yX0_enterRow cX0_enterRow 2 none) 2 D k [.ref (a 0), .ref (a 7)] (cardW k a u) (cardW k a (m_X0_enterRow_0_u u)) := by
  refine mV_intro rfl (Nat.le_of_ble_eq_true rfl) ?_
  intro p e s m args below meth c A Q ls X hW hl hQ
  have hx := X.hx
  have hb := X.hb
  have hl : lv_has ls 2 [(0, .ref (a 0)), (1, .ref (a 7))] := hl
  refine lv_aload_n hx hb dX0_enterRow_0 rfl (lv_at hl 1 rfl) ?_
  refine lv_aload_n hx hb dX0_enterRow_1 rfl (lv_at hl 0 rfl) ?_
  obtain ⟨z_1, hz_1⟩ : ∃ z, m_X0_rowLength_r u = z := ⟨_, rfl⟩
  have hM_2 := (c_X0_rowLength l D k a u )
  rw [hz_1] at hM_2
  refine kVi (As := []) (rest := [.ref (a 7)]) X hW hM_2 yw_X0_rowLength lk_X0_131 ⟨Nat.le_of_ble_eq_true rfl, Nat.le_of_ble_eq_true rfl⟩ (wr := []) (List.Perm.refl _) (w' := cardW k a u) (List.Perm.refl _) (k_rcv X hW (ci := 0) (q0 := 0) rfl rfl) rfl hl.1 rfl (Nat.le_of_ble_eq_true rfl) ⟨Nat.zero_le _, Nat.zero_le _⟩ dX0_enterRow_2 (fun H locs hW => ?_)
  refine k_putN X hW inG3 rfl tyX3_ok nmX3 3 (by decide) fln_X0_96 rfl rfl 7 rfl rfl rfl (Nat.le_of_ble_eq_true rfl) dX0_enterRow_5 (w' := cardW k a (st2 u 6 (upd (u 6) 3 z_1))) rfl (fun H locs hW => ?_)
  refine lv_aload_n hx hb dX0_enterRow_8 rfl (lv_at hl 1 rfl) ?_
  refine lv_dup hx hb dX0_enterRow_9 rfl ?_
  refine k_getN X hW inG3 rfl 7 (by decide) fln_X0_138 rfl 7 rfl (v := .int (u 6 7)) rfl dX0_enterRow_10 ?_
  refine lv_iconst (v := nI 1) hx hb dX0_enterRow_13 (by decide +kernel) ?_
  refine lv_iadd hx hb dX0_enterRow_14 ?_
  refine k_putN X hW inG3 rfl tyX3_ok nmX3 7 (by decide) fln_X0_138 rfl rfl 7 rfl rfl rfl (Nat.le_of_ble_eq_true rfl) dX0_enterRow_15 (w' := cardW k a (st2 u 6 (upd (upd (u 6) 3 z_1) 7 ((u 6 7) + (nI 1))))) rfl (fun H locs hW => ?_)
  refine lv_aload_n hx hb dX0_enterRow_18 rfl (lv_at hl 1 rfl) ?_
  refine lv_iconst (v := nI 0) hx hb dX0_enterRow_19 (by decide +kernel) ?_
  refine k_putN X hW inG3 rfl tyX3_ok nmX3 12 (by decide) fln_X0_141 rfl rfl 7 rfl rfl rfl (Nat.le_of_ble_eq_true rfl) dX0_enterRow_20 (w' := cardW k a (st2 u 6 (upd (upd (upd (u 6) 3 z_1) 7 ((u 6 7) + (nI 1))) 12 (nI 0)))) rfl (fun H locs hW => ?_)
  exact hQ _ _ _ _ _ hW dX0_enterRow_23 (by subst hz_1; rw [m_X0_enterRow_0_u])
set_option maxHeartbeats 4000000 in
theorem CM_X0_enterRow_0 {u : CS}  (h : CM u) : CM (m_X0_enterRow_0_u u) := by
  rw [m_X0_enterRow_0_u]
  exact (CM_stc h (by decide) (by decide))
def m_X0_enterRow_1_u (u : CS) : CS := st2 u 7 (upd (upd (upd (u 7) 3 (m_X0_rowLength_r u)) 7 ((u 7 7) + (nI 1))) 12 (nI 0))
set_option maxHeartbeats 4000000 in
set_option maxRecDepth 100000 in
theorem c_X0_enterRow_1 (l : Launch) (D : va_G) (k : Nat → ClassId) (a : Nat → Nat) (u : CS)   : mV l yX0_enterRow (wsY yX0_enterRow cX0_enterRow 2 none) 2 D k [.ref (a 0), .ref (a 8)] (cardW k a u) (cardW k a (m_X0_enterRow_1_u u)) := by
  refine mV_intro rfl (Nat.le_of_ble_eq_true rfl) ?_
  intro p e s m args below meth c A Q ls X hW hl hQ
  have hx := X.hx
  have hb := X.hb
  have hl : lv_has ls 2 [(0, .ref (a 0)), (1, .ref (a 8))] := hl
  refine lv_aload_n hx hb dX0_enterRow_0 rfl (lv_at hl 1 rfl) ?_
  refine lv_aload_n hx hb dX0_enterRow_1 rfl (lv_at hl 0 rfl) ?_
  obtain ⟨z_1, hz_1⟩ : ∃ z, m_X0_rowLength_r u = z := ⟨_, rfl⟩
  have hM_2 := (c_X0_rowLength l D k a u )
  rw [hz_1] at hM_2
  refine kVi (As := []) (rest := [.ref (a 8)]) X hW hM_2 yw_X0_rowLength lk_X0_131 ⟨Nat.le_of_ble_eq_true rfl, Nat.le_of_ble_eq_true rfl⟩ (wr := []) (List.Perm.refl _) (w' := cardW k a u) (List.Perm.refl _) (k_rcv X hW (ci := 0) (q0 := 0) rfl rfl) rfl hl.1 rfl (Nat.le_of_ble_eq_true rfl) ⟨Nat.zero_le _, Nat.zero_le _⟩ dX0_enterRow_2 (fun H locs hW => ?_)
  refine k_putN X hW inG3 rfl tyX3_ok nmX3 3 (by decide) fln_X0_96 rfl rfl 8 rfl rfl rfl (Nat.le_of_ble_eq_true rfl) dX0_enterRow_5 (w' := cardW k a (st2 u 7 (upd (u 7) 3 z_1))) rfl (fun H locs hW => ?_)
  refine lv_aload_n hx hb dX0_enterRow_8 rfl (lv_at hl 1 rfl) ?_
  refine lv_dup hx hb dX0_enterRow_9 rfl ?_
  refine k_getN X hW inG3 rfl 7 (by decide) fln_X0_138 rfl 8 rfl (v := .int (u 7 7)) rfl dX0_enterRow_10 ?_
  refine lv_iconst (v := nI 1) hx hb dX0_enterRow_13 (by decide +kernel) ?_
  refine lv_iadd hx hb dX0_enterRow_14 ?_
  refine k_putN X hW inG3 rfl tyX3_ok nmX3 7 (by decide) fln_X0_138 rfl rfl 8 rfl rfl rfl (Nat.le_of_ble_eq_true rfl) dX0_enterRow_15 (w' := cardW k a (st2 u 7 (upd (upd (u 7) 3 z_1) 7 ((u 7 7) + (nI 1))))) rfl (fun H locs hW => ?_)
  refine lv_aload_n hx hb dX0_enterRow_18 rfl (lv_at hl 1 rfl) ?_
  refine lv_iconst (v := nI 0) hx hb dX0_enterRow_19 (by decide +kernel) ?_
  refine k_putN X hW inG3 rfl tyX3_ok nmX3 12 (by decide) fln_X0_141 rfl rfl 8 rfl rfl rfl (Nat.le_of_ble_eq_true rfl) dX0_enterRow_20 (w' := cardW k a (st2 u 7 (upd (upd (upd (u 7) 3 z_1) 7 ((u 7 7) + (nI 1))) 12 (nI 0)))) rfl (fun H locs hW => ?_)
  exact hQ _ _ _ _ _ hW dX0_enterRow_23 (by subst hz_1; rw [m_X0_enterRow_1_u])
set_option maxHeartbeats 4000000 in
theorem CM_X0_enterRow_1 {u : CS}  (h : CM u) : CM (m_X0_enterRow_1_u u) := by
  rw [m_X0_enterRow_1_u]
  exact (CM_stc h (by decide) (by decide))
def m_X0_enterRow_2_u (u : CS) : CS := st2 u 8 (upd (upd (upd (u 8) 3 (m_X0_rowLength_r u)) 7 ((u 8 7) + (nI 1))) 12 (nI 0))
set_option maxHeartbeats 4000000 in
set_option maxRecDepth 100000 in
theorem c_X0_enterRow_2 (l : Launch) (D : va_G) (k : Nat → ClassId) (a : Nat → Nat) (u : CS)   : mV l yX0_enterRow (wsY yX0_enterRow cX0_enterRow 2 none) 2 D k [.ref (a 0), .ref (a 9)] (cardW k a u) (cardW k a (m_X0_enterRow_2_u u)) := by
  refine mV_intro rfl (Nat.le_of_ble_eq_true rfl) ?_
  intro p e s m args below meth c A Q ls X hW hl hQ
  have hx := X.hx
  have hb := X.hb
  have hl : lv_has ls 2 [(0, .ref (a 0)), (1, .ref (a 9))] := hl
  refine lv_aload_n hx hb dX0_enterRow_0 rfl (lv_at hl 1 rfl) ?_
  refine lv_aload_n hx hb dX0_enterRow_1 rfl (lv_at hl 0 rfl) ?_
  obtain ⟨z_1, hz_1⟩ : ∃ z, m_X0_rowLength_r u = z := ⟨_, rfl⟩
  have hM_2 := (c_X0_rowLength l D k a u )
  rw [hz_1] at hM_2
  refine kVi (As := []) (rest := [.ref (a 9)]) X hW hM_2 yw_X0_rowLength lk_X0_131 ⟨Nat.le_of_ble_eq_true rfl, Nat.le_of_ble_eq_true rfl⟩ (wr := []) (List.Perm.refl _) (w' := cardW k a u) (List.Perm.refl _) (k_rcv X hW (ci := 0) (q0 := 0) rfl rfl) rfl hl.1 rfl (Nat.le_of_ble_eq_true rfl) ⟨Nat.zero_le _, Nat.zero_le _⟩ dX0_enterRow_2 (fun H locs hW => ?_)
  refine k_putN X hW inG3 rfl tyX3_ok nmX3 3 (by decide) fln_X0_96 rfl rfl 9 rfl rfl rfl (Nat.le_of_ble_eq_true rfl) dX0_enterRow_5 (w' := cardW k a (st2 u 8 (upd (u 8) 3 z_1))) rfl (fun H locs hW => ?_)
  refine lv_aload_n hx hb dX0_enterRow_8 rfl (lv_at hl 1 rfl) ?_
  refine lv_dup hx hb dX0_enterRow_9 rfl ?_
  refine k_getN X hW inG3 rfl 7 (by decide) fln_X0_138 rfl 9 rfl (v := .int (u 8 7)) rfl dX0_enterRow_10 ?_
  refine lv_iconst (v := nI 1) hx hb dX0_enterRow_13 (by decide +kernel) ?_
  refine lv_iadd hx hb dX0_enterRow_14 ?_
  refine k_putN X hW inG3 rfl tyX3_ok nmX3 7 (by decide) fln_X0_138 rfl rfl 9 rfl rfl rfl (Nat.le_of_ble_eq_true rfl) dX0_enterRow_15 (w' := cardW k a (st2 u 8 (upd (upd (u 8) 3 z_1) 7 ((u 8 7) + (nI 1))))) rfl (fun H locs hW => ?_)
  refine lv_aload_n hx hb dX0_enterRow_18 rfl (lv_at hl 1 rfl) ?_
  refine lv_iconst (v := nI 0) hx hb dX0_enterRow_19 (by decide +kernel) ?_
  refine k_putN X hW inG3 rfl tyX3_ok nmX3 12 (by decide) fln_X0_141 rfl rfl 9 rfl rfl rfl (Nat.le_of_ble_eq_true rfl) dX0_enterRow_20 (w' := cardW k a (st2 u 8 (upd (upd (upd (u 8) 3 z_1) 7 ((u 8 7) + (nI 1))) 12 (nI 0)))) rfl (fun H locs hW => ?_)
  exact hQ _ _ _ _ _ hW dX0_enterRow_23 (by subst hz_1; rw [m_X0_enterRow_2_u])
set_option maxHeartbeats 4000000 in
theorem CM_X0_enterRow_2 {u : CS}  (h : CM u) : CM (m_X0_enterRow_2_u u) := by
  rw [m_X0_enterRow_2_u]
  exact (CM_stc h (by decide) (by decide))
def m_X0_leaveRow_0_u (u : CS) : CS := if u 6 3 ≤ u 6 3 then (if u 7 3 ≤ u 6 3 then (if u 8 3 ≤ u 6 3 then st2 u 6 (upd (u 6) 3 (-1)) else st2 (st2 u 6 (upd (u 6) 3 (-1))) 8 (upd (u 8) 3 ((u 8 3) - (nI 1)))) else if u 8 3 ≤ u 6 3 then st2 (st2 u 6 (upd (u 6) 3 (-1))) 7 (upd (u 7) 3 ((u 7 3) - (nI 1))) else st2 (st2 (st2 u 6 (upd (u 6) 3 (-1))) 7 (upd (u 7) 3 ((u 7 3) - (nI 1)))) 8 (upd (u 8) 3 ((u 8 3) - (nI 1)))) else if u 7 3 ≤ (u 6 3) - (nI 1) then (if u 8 3 ≤ (u 6 3) - (nI 1) then st2 u 6 (upd (u 6) 3 (-1)) else st2 (st2 u 6 (upd (u 6) 3 (-1))) 8 (upd (u 8) 3 ((u 8 3) - (nI 1)))) else if u 8 3 ≤ (u 6 3) - (nI 1) then st2 (st2 u 6 (upd (u 6) 3 (-1))) 7 (upd (u 7) 3 ((u 7 3) - (nI 1))) else st2 (st2 (st2 u 6 (upd (u 6) 3 (-1))) 7 (upd (u 7) 3 ((u 7 3) - (nI 1)))) 8 (upd (u 8) 3 ((u 8 3) - (nI 1)))
set_option maxHeartbeats 4000000 in
set_option maxRecDepth 100000 in
theorem c_X0_leaveRow_0 (l : Launch) (D : va_G) (k : Nat → ClassId) (a : Nat → Nat) (u : CS)   : mV l yX0_leaveRow (wsY yX0_leaveRow cX0_leaveRow 6 none) 0 D k [.ref (a 0), .ref (a 7)] (cardW k a u) (cardW k a (m_X0_leaveRow_0_u u)) := by
  refine mV_intro rfl (Nat.le_of_ble_eq_true rfl) ?_
  intro p e s m args below meth c A Q ls X hW hl hQ
  have hx := X.hx
  have hb := X.hb
  have hl : lv_has ls 6 [(0, .ref (a 0)), (1, .ref (a 7))] := hl
  refine lv_aload_n hx hb dX0_leaveRow_0 rfl (lv_at hl 0 rfl) ?_
  refine k_get X hW inG0 rfl 1 (by decide) fl_X0_20 rfl 0 rfl (v := .ref (a 2)) rfl dX0_leaveRow_1 ?_
  refine lv_astore_n (lv' := [(2, .ref (a 2)), (0, .ref (a 0)), (1, .ref (a 7))]) hx hb dX0_leaveRow_4 rfl hl (by decide) rfl (fun ls hl => ?_)
  refine lv_aload_n hx hb dX0_leaveRow_5 rfl (lv_at hl 0 rfl) ?_
  refine k_alen X hW 2 1 rfl rfl (v := nI 3) rfl dX0_leaveRow_6 ?_
  refine lv_istore_n (lv' := [(3, .int (nI 3)), (2, .ref (a 2)), (0, .ref (a 0)), (1, .ref (a 7))]) hx hb dX0_leaveRow_7 rfl hl (by decide) rfl (fun ls hl => ?_)
  refine lv_iconst (v := nI 0) hx hb dX0_leaveRow_8 (by decide +kernel) ?_
  refine lv_istore (lv' := [(4, .int (nI 0)), (3, .int (nI 3)), (2, .ref (a 2)), (0, .ref (a 0)), (1, .ref (a 7))]) hx hb dX0_leaveRow_9 hl (by decide) rfl (fun ls hl => ?_)
  refine lv_iload hx hb dX0_leaveRow_11 (lv_at hl 0 rfl) ?_
  refine lv_iload_n hx hb dX0_leaveRow_13 rfl (lv_at hl 1 rfl) ?_
  refine lv_icmp_ge (tgt := 52) hx hb dX0_leaveRow_14 (by decide) (fun c => absurd c (by decide +kernel)) (fun _ => ?_)
  refine lv_aload_n hx hb dX0_leaveRow_17 rfl (lv_at hl 2 rfl) ?_
  refine lv_iload hx hb dX0_leaveRow_18 (lv_at hl 0 rfl) ?_
  refine k_aald X hW 2 1 rfl rfl (j := 0) (b := a 7) rfl (by decide) (by decide) rfl dX0_leaveRow_20 ?_
  refine lv_astore (lv' := [(5, .ref (a 7)), (4, .int (nI 0)), (3, .int (nI 3)), (2, .ref (a 2)), (0, .ref (a 0)), (1, .ref (a 7))]) hx hb dX0_leaveRow_21 hl (by decide) rfl (fun ls hl => ?_)
  refine lv_aload hx hb dX0_leaveRow_23 (lv_at hl 0 rfl) ?_
  refine k_getN X hW inG3 rfl 3 (by decide) fln_X0_96 rfl 7 rfl (v := .int (u 6 3)) rfl dX0_leaveRow_25 ?_
  refine lv_aload_n hx hb dX0_leaveRow_28 rfl (lv_at hl 5 rfl) ?_
  refine k_getN X hW inG3 rfl 3 (by decide) fln_X0_96 rfl 7 rfl (v := .int (u 6 3)) rfl dX0_leaveRow_29 ?_
  refine lv_icmp_le (tgt := 46) hx hb dX0_leaveRow_32 (by decide) (fun c_2 => ?_) (fun c_2 => ?_)
  · refine lv_iinc (v := nI 1) (lv' := [(4, .int (nI 1)), (5, .ref (a 7)), (3, .int (nI 3)), (2, .ref (a 2)), (0, .ref (a 0)), (1, .ref (a 7))]) hx hb dX0_leaveRow_46 hl (k := 1) rfl (k_inc _) (by decide) rfl (fun ls hl => ?_)
    refine lv_goto (tgt := 11) hx hb dX0_leaveRow_49 (by decide) ?_
    refine lv_iload hx hb dX0_leaveRow_11 (lv_at hl 0 rfl) ?_
    refine lv_iload_n hx hb dX0_leaveRow_13 rfl (lv_at hl 2 rfl) ?_
    refine lv_icmp_ge (tgt := 52) hx hb dX0_leaveRow_14 (by decide) (fun c => absurd c (by decide +kernel)) (fun _ => ?_)
    refine lv_aload_n hx hb dX0_leaveRow_17 rfl (lv_at hl 3 rfl) ?_
    refine lv_iload hx hb dX0_leaveRow_18 (lv_at hl 0 rfl) ?_
    refine k_aald X hW 2 1 rfl rfl (j := 1) (b := a 8) rfl (by decide) (by decide) rfl dX0_leaveRow_20 ?_
    refine lv_astore (lv' := [(5, .ref (a 8)), (4, .int (nI 1)), (3, .int (nI 3)), (2, .ref (a 2)), (0, .ref (a 0)), (1, .ref (a 7))]) hx hb dX0_leaveRow_21 hl (by decide) rfl (fun ls hl => ?_)
    refine lv_aload hx hb dX0_leaveRow_23 (lv_at hl 0 rfl) ?_
    refine k_getN X hW inG3 rfl 3 (by decide) fln_X0_96 rfl 8 rfl (v := .int (u 7 3)) rfl dX0_leaveRow_25 ?_
    refine lv_aload_n hx hb dX0_leaveRow_28 rfl (lv_at hl 5 rfl) ?_
    refine k_getN X hW inG3 rfl 3 (by decide) fln_X0_96 rfl 7 rfl (v := .int (u 6 3)) rfl dX0_leaveRow_29 ?_
    refine lv_icmp_le (tgt := 46) hx hb dX0_leaveRow_32 (by decide) (fun c_4 => ?_) (fun c_4 => ?_)
    · refine lv_iinc (v := nI 2) (lv' := [(4, .int (nI 2)), (5, .ref (a 8)), (3, .int (nI 3)), (2, .ref (a 2)), (0, .ref (a 0)), (1, .ref (a 7))]) hx hb dX0_leaveRow_46 hl (k := 1) rfl (k_inc _) (by decide) rfl (fun ls hl => ?_)
      refine lv_goto (tgt := 11) hx hb dX0_leaveRow_49 (by decide) ?_
      refine lv_iload hx hb dX0_leaveRow_11 (lv_at hl 0 rfl) ?_
      refine lv_iload_n hx hb dX0_leaveRow_13 rfl (lv_at hl 2 rfl) ?_
      refine lv_icmp_ge (tgt := 52) hx hb dX0_leaveRow_14 (by decide) (fun c => absurd c (by decide +kernel)) (fun _ => ?_)
      refine lv_aload_n hx hb dX0_leaveRow_17 rfl (lv_at hl 3 rfl) ?_
      refine lv_iload hx hb dX0_leaveRow_18 (lv_at hl 0 rfl) ?_
      refine k_aald X hW 2 1 rfl rfl (j := 2) (b := a 9) rfl (by decide) (by decide) rfl dX0_leaveRow_20 ?_
      refine lv_astore (lv' := [(5, .ref (a 9)), (4, .int (nI 2)), (3, .int (nI 3)), (2, .ref (a 2)), (0, .ref (a 0)), (1, .ref (a 7))]) hx hb dX0_leaveRow_21 hl (by decide) rfl (fun ls hl => ?_)
      refine lv_aload hx hb dX0_leaveRow_23 (lv_at hl 0 rfl) ?_
      refine k_getN X hW inG3 rfl 3 (by decide) fln_X0_96 rfl 9 rfl (v := .int (u 8 3)) rfl dX0_leaveRow_25 ?_
      refine lv_aload_n hx hb dX0_leaveRow_28 rfl (lv_at hl 5 rfl) ?_
      refine k_getN X hW inG3 rfl 3 (by decide) fln_X0_96 rfl 7 rfl (v := .int (u 6 3)) rfl dX0_leaveRow_29 ?_
      refine lv_icmp_le (tgt := 46) hx hb dX0_leaveRow_32 (by decide) (fun c_6 => ?_) (fun c_6 => ?_)
      · refine lv_iinc (v := nI 3) (lv' := [(4, .int (nI 3)), (5, .ref (a 9)), (3, .int (nI 3)), (2, .ref (a 2)), (0, .ref (a 0)), (1, .ref (a 7))]) hx hb dX0_leaveRow_46 hl (k := 1) rfl (k_inc _) (by decide) rfl (fun ls hl => ?_)
        refine lv_goto (tgt := 11) hx hb dX0_leaveRow_49 (by decide) ?_
        refine lv_iload hx hb dX0_leaveRow_11 (lv_at hl 0 rfl) ?_
        refine lv_iload_n hx hb dX0_leaveRow_13 rfl (lv_at hl 2 rfl) ?_
        refine lv_icmp_ge (tgt := 52) hx hb dX0_leaveRow_14 (by decide) (fun _ => ?_) (fun c => absurd (by decide +kernel) c)
        refine lv_aload_n hx hb dX0_leaveRow_52 rfl (lv_at hl 5 rfl) ?_
        refine lv_iconst (v := (-1)) hx hb dX0_leaveRow_53 (by decide +kernel) ?_
        refine k_putN X hW inG3 rfl tyX3_ok nmX3 3 (by decide) fln_X0_96 rfl rfl 7 rfl rfl rfl (Nat.le_of_ble_eq_true rfl) dX0_leaveRow_54 (w' := cardW k a (st2 u 6 (upd (u 6) 3 (-1)))) rfl (fun H locs hW => ?_)
        exact hQ _ _ _ _ _ hW dX0_leaveRow_57 (by rw [m_X0_leaveRow_0_u, if_pos c_2, if_pos c_4, if_pos c_6])
      · refine lv_aload hx hb dX0_leaveRow_35 (lv_at hl 0 rfl) ?_
        refine lv_dup hx hb dX0_leaveRow_37 rfl ?_
        refine k_getN X hW inG3 rfl 3 (by decide) fln_X0_96 rfl 9 rfl (v := .int (u 8 3)) rfl dX0_leaveRow_38 ?_
        refine lv_iconst (v := nI 1) hx hb dX0_leaveRow_41 (by decide +kernel) ?_
        refine lv_isub hx hb dX0_leaveRow_42 ?_
        refine k_putN X hW inG3 rfl tyX3_ok nmX3 3 (by decide) fln_X0_96 rfl rfl 9 rfl rfl rfl (Nat.le_of_ble_eq_true rfl) dX0_leaveRow_43 (w' := cardW k a (st2 u 8 (upd (u 8) 3 ((u 8 3) - (nI 1))))) rfl (fun H locs hW => ?_)
        refine lv_iinc (v := nI 3) (lv' := [(4, .int (nI 3)), (5, .ref (a 9)), (3, .int (nI 3)), (2, .ref (a 2)), (0, .ref (a 0)), (1, .ref (a 7))]) hx hb dX0_leaveRow_46 hl (k := 1) rfl (k_inc _) (by decide) rfl (fun ls hl => ?_)
        refine lv_goto (tgt := 11) hx hb dX0_leaveRow_49 (by decide) ?_
        refine lv_iload hx hb dX0_leaveRow_11 (lv_at hl 0 rfl) ?_
        refine lv_iload_n hx hb dX0_leaveRow_13 rfl (lv_at hl 2 rfl) ?_
        refine lv_icmp_ge (tgt := 52) hx hb dX0_leaveRow_14 (by decide) (fun _ => ?_) (fun c => absurd (by decide +kernel) c)
        refine lv_aload_n hx hb dX0_leaveRow_52 rfl (lv_at hl 5 rfl) ?_
        refine lv_iconst (v := (-1)) hx hb dX0_leaveRow_53 (by decide +kernel) ?_
        refine k_putN X hW inG3 rfl tyX3_ok nmX3 3 (by decide) fln_X0_96 rfl rfl 7 rfl rfl rfl (Nat.le_of_ble_eq_true rfl) dX0_leaveRow_54 (w' := cardW k a (st2 (st2 u 6 (upd (u 6) 3 (-1))) 8 (upd (u 8) 3 ((u 8 3) - (nI 1))))) rfl (fun H locs hW => ?_)
        exact hQ _ _ _ _ _ hW dX0_leaveRow_57 (by rw [m_X0_leaveRow_0_u, if_pos c_2, if_pos c_4, if_neg c_6])
    · refine lv_aload hx hb dX0_leaveRow_35 (lv_at hl 0 rfl) ?_
      refine lv_dup hx hb dX0_leaveRow_37 rfl ?_
      refine k_getN X hW inG3 rfl 3 (by decide) fln_X0_96 rfl 8 rfl (v := .int (u 7 3)) rfl dX0_leaveRow_38 ?_
      refine lv_iconst (v := nI 1) hx hb dX0_leaveRow_41 (by decide +kernel) ?_
      refine lv_isub hx hb dX0_leaveRow_42 ?_
      refine k_putN X hW inG3 rfl tyX3_ok nmX3 3 (by decide) fln_X0_96 rfl rfl 8 rfl rfl rfl (Nat.le_of_ble_eq_true rfl) dX0_leaveRow_43 (w' := cardW k a (st2 u 7 (upd (u 7) 3 ((u 7 3) - (nI 1))))) rfl (fun H locs hW => ?_)
      refine lv_iinc (v := nI 2) (lv' := [(4, .int (nI 2)), (5, .ref (a 8)), (3, .int (nI 3)), (2, .ref (a 2)), (0, .ref (a 0)), (1, .ref (a 7))]) hx hb dX0_leaveRow_46 hl (k := 1) rfl (k_inc _) (by decide) rfl (fun ls hl => ?_)
      refine lv_goto (tgt := 11) hx hb dX0_leaveRow_49 (by decide) ?_
      refine lv_iload hx hb dX0_leaveRow_11 (lv_at hl 0 rfl) ?_
      refine lv_iload_n hx hb dX0_leaveRow_13 rfl (lv_at hl 2 rfl) ?_
      refine lv_icmp_ge (tgt := 52) hx hb dX0_leaveRow_14 (by decide) (fun c => absurd c (by decide +kernel)) (fun _ => ?_)
      refine lv_aload_n hx hb dX0_leaveRow_17 rfl (lv_at hl 3 rfl) ?_
      refine lv_iload hx hb dX0_leaveRow_18 (lv_at hl 0 rfl) ?_
      refine k_aald X hW 2 1 rfl rfl (j := 2) (b := a 9) rfl (by decide) (by decide) rfl dX0_leaveRow_20 ?_
      refine lv_astore (lv' := [(5, .ref (a 9)), (4, .int (nI 2)), (3, .int (nI 3)), (2, .ref (a 2)), (0, .ref (a 0)), (1, .ref (a 7))]) hx hb dX0_leaveRow_21 hl (by decide) rfl (fun ls hl => ?_)
      refine lv_aload hx hb dX0_leaveRow_23 (lv_at hl 0 rfl) ?_
      refine k_getN X hW inG3 rfl 3 (by decide) fln_X0_96 rfl 9 rfl (v := .int (u 8 3)) rfl dX0_leaveRow_25 ?_
      refine lv_aload_n hx hb dX0_leaveRow_28 rfl (lv_at hl 5 rfl) ?_
      refine k_getN X hW inG3 rfl 3 (by decide) fln_X0_96 rfl 7 rfl (v := .int (u 6 3)) rfl dX0_leaveRow_29 ?_
      refine lv_icmp_le (tgt := 46) hx hb dX0_leaveRow_32 (by decide) (fun c_10 => ?_) (fun c_10 => ?_)
      · refine lv_iinc (v := nI 3) (lv' := [(4, .int (nI 3)), (5, .ref (a 9)), (3, .int (nI 3)), (2, .ref (a 2)), (0, .ref (a 0)), (1, .ref (a 7))]) hx hb dX0_leaveRow_46 hl (k := 1) rfl (k_inc _) (by decide) rfl (fun ls hl => ?_)
        refine lv_goto (tgt := 11) hx hb dX0_leaveRow_49 (by decide) ?_
        refine lv_iload hx hb dX0_leaveRow_11 (lv_at hl 0 rfl) ?_
        refine lv_iload_n hx hb dX0_leaveRow_13 rfl (lv_at hl 2 rfl) ?_
        refine lv_icmp_ge (tgt := 52) hx hb dX0_leaveRow_14 (by decide) (fun _ => ?_) (fun c => absurd (by decide +kernel) c)
        refine lv_aload_n hx hb dX0_leaveRow_52 rfl (lv_at hl 5 rfl) ?_
        refine lv_iconst (v := (-1)) hx hb dX0_leaveRow_53 (by decide +kernel) ?_
        refine k_putN X hW inG3 rfl tyX3_ok nmX3 3 (by decide) fln_X0_96 rfl rfl 7 rfl rfl rfl (Nat.le_of_ble_eq_true rfl) dX0_leaveRow_54 (w' := cardW k a (st2 (st2 u 6 (upd (u 6) 3 (-1))) 7 (upd (u 7) 3 ((u 7 3) - (nI 1))))) rfl (fun H locs hW => ?_)
        exact hQ _ _ _ _ _ hW dX0_leaveRow_57 (by rw [m_X0_leaveRow_0_u, if_pos c_2, if_neg c_4, if_pos c_10])
      · refine lv_aload hx hb dX0_leaveRow_35 (lv_at hl 0 rfl) ?_
        refine lv_dup hx hb dX0_leaveRow_37 rfl ?_
        refine k_getN X hW inG3 rfl 3 (by decide) fln_X0_96 rfl 9 rfl (v := .int (u 8 3)) rfl dX0_leaveRow_38 ?_
        refine lv_iconst (v := nI 1) hx hb dX0_leaveRow_41 (by decide +kernel) ?_
        refine lv_isub hx hb dX0_leaveRow_42 ?_
        refine k_putN X hW inG3 rfl tyX3_ok nmX3 3 (by decide) fln_X0_96 rfl rfl 9 rfl rfl rfl (Nat.le_of_ble_eq_true rfl) dX0_leaveRow_43 (w' := cardW k a (st2 (st2 u 7 (upd (u 7) 3 ((u 7 3) - (nI 1)))) 8 (upd (u 8) 3 ((u 8 3) - (nI 1))))) rfl (fun H locs hW => ?_)
        refine lv_iinc (v := nI 3) (lv' := [(4, .int (nI 3)), (5, .ref (a 9)), (3, .int (nI 3)), (2, .ref (a 2)), (0, .ref (a 0)), (1, .ref (a 7))]) hx hb dX0_leaveRow_46 hl (k := 1) rfl (k_inc _) (by decide) rfl (fun ls hl => ?_)
        refine lv_goto (tgt := 11) hx hb dX0_leaveRow_49 (by decide) ?_
        refine lv_iload hx hb dX0_leaveRow_11 (lv_at hl 0 rfl) ?_
        refine lv_iload_n hx hb dX0_leaveRow_13 rfl (lv_at hl 2 rfl) ?_
        refine lv_icmp_ge (tgt := 52) hx hb dX0_leaveRow_14 (by decide) (fun _ => ?_) (fun c => absurd (by decide +kernel) c)
        refine lv_aload_n hx hb dX0_leaveRow_52 rfl (lv_at hl 5 rfl) ?_
        refine lv_iconst (v := (-1)) hx hb dX0_leaveRow_53 (by decide +kernel) ?_
        refine k_putN X hW inG3 rfl tyX3_ok nmX3 3 (by decide) fln_X0_96 rfl rfl 7 rfl rfl rfl (Nat.le_of_ble_eq_true rfl) dX0_leaveRow_54 (w' := cardW k a (st2 (st2 (st2 u 6 (upd (u 6) 3 (-1))) 7 (upd (u 7) 3 ((u 7 3) - (nI 1)))) 8 (upd (u 8) 3 ((u 8 3) - (nI 1))))) rfl (fun H locs hW => ?_)
        exact hQ _ _ _ _ _ hW dX0_leaveRow_57 (by rw [m_X0_leaveRow_0_u, if_pos c_2, if_neg c_4, if_neg c_10])
  · refine lv_aload hx hb dX0_leaveRow_35 (lv_at hl 0 rfl) ?_
    refine lv_dup hx hb dX0_leaveRow_37 rfl ?_
    refine k_getN X hW inG3 rfl 3 (by decide) fln_X0_96 rfl 7 rfl (v := .int (u 6 3)) rfl dX0_leaveRow_38 ?_
    refine lv_iconst (v := nI 1) hx hb dX0_leaveRow_41 (by decide +kernel) ?_
    refine lv_isub hx hb dX0_leaveRow_42 ?_
    refine k_putN X hW inG3 rfl tyX3_ok nmX3 3 (by decide) fln_X0_96 rfl rfl 7 rfl rfl rfl (Nat.le_of_ble_eq_true rfl) dX0_leaveRow_43 (w' := cardW k a (st2 u 6 (upd (u 6) 3 ((u 6 3) - (nI 1))))) rfl (fun H locs hW => ?_)
    refine lv_iinc (v := nI 1) (lv' := [(4, .int (nI 1)), (5, .ref (a 7)), (3, .int (nI 3)), (2, .ref (a 2)), (0, .ref (a 0)), (1, .ref (a 7))]) hx hb dX0_leaveRow_46 hl (k := 1) rfl (k_inc _) (by decide) rfl (fun ls hl => ?_)
    refine lv_goto (tgt := 11) hx hb dX0_leaveRow_49 (by decide) ?_
    refine lv_iload hx hb dX0_leaveRow_11 (lv_at hl 0 rfl) ?_
    refine lv_iload_n hx hb dX0_leaveRow_13 rfl (lv_at hl 2 rfl) ?_
    refine lv_icmp_ge (tgt := 52) hx hb dX0_leaveRow_14 (by decide) (fun c => absurd c (by decide +kernel)) (fun _ => ?_)
    refine lv_aload_n hx hb dX0_leaveRow_17 rfl (lv_at hl 3 rfl) ?_
    refine lv_iload hx hb dX0_leaveRow_18 (lv_at hl 0 rfl) ?_
    refine k_aald X hW 2 1 rfl rfl (j := 1) (b := a 8) rfl (by decide) (by decide) rfl dX0_leaveRow_20 ?_
    refine lv_astore (lv' := [(5, .ref (a 8)), (4, .int (nI 1)), (3, .int (nI 3)), (2, .ref (a 2)), (0, .ref (a 0)), (1, .ref (a 7))]) hx hb dX0_leaveRow_21 hl (by decide) rfl (fun ls hl => ?_)
    refine lv_aload hx hb dX0_leaveRow_23 (lv_at hl 0 rfl) ?_
    refine k_getN X hW inG3 rfl 3 (by decide) fln_X0_96 rfl 8 rfl (v := .int (u 7 3)) rfl dX0_leaveRow_25 ?_
    refine lv_aload_n hx hb dX0_leaveRow_28 rfl (lv_at hl 5 rfl) ?_
    refine k_getN X hW inG3 rfl 3 (by decide) fln_X0_96 rfl 7 rfl (v := .int ((u 6 3) - (nI 1))) rfl dX0_leaveRow_29 ?_
    refine lv_icmp_le (tgt := 46) hx hb dX0_leaveRow_32 (by decide) (fun c_14 => ?_) (fun c_14 => ?_)
    · refine lv_iinc (v := nI 2) (lv' := [(4, .int (nI 2)), (5, .ref (a 8)), (3, .int (nI 3)), (2, .ref (a 2)), (0, .ref (a 0)), (1, .ref (a 7))]) hx hb dX0_leaveRow_46 hl (k := 1) rfl (k_inc _) (by decide) rfl (fun ls hl => ?_)
      refine lv_goto (tgt := 11) hx hb dX0_leaveRow_49 (by decide) ?_
      refine lv_iload hx hb dX0_leaveRow_11 (lv_at hl 0 rfl) ?_
      refine lv_iload_n hx hb dX0_leaveRow_13 rfl (lv_at hl 2 rfl) ?_
      refine lv_icmp_ge (tgt := 52) hx hb dX0_leaveRow_14 (by decide) (fun c => absurd c (by decide +kernel)) (fun _ => ?_)
      refine lv_aload_n hx hb dX0_leaveRow_17 rfl (lv_at hl 3 rfl) ?_
      refine lv_iload hx hb dX0_leaveRow_18 (lv_at hl 0 rfl) ?_
      refine k_aald X hW 2 1 rfl rfl (j := 2) (b := a 9) rfl (by decide) (by decide) rfl dX0_leaveRow_20 ?_
      refine lv_astore (lv' := [(5, .ref (a 9)), (4, .int (nI 2)), (3, .int (nI 3)), (2, .ref (a 2)), (0, .ref (a 0)), (1, .ref (a 7))]) hx hb dX0_leaveRow_21 hl (by decide) rfl (fun ls hl => ?_)
      refine lv_aload hx hb dX0_leaveRow_23 (lv_at hl 0 rfl) ?_
      refine k_getN X hW inG3 rfl 3 (by decide) fln_X0_96 rfl 9 rfl (v := .int (u 8 3)) rfl dX0_leaveRow_25 ?_
      refine lv_aload_n hx hb dX0_leaveRow_28 rfl (lv_at hl 5 rfl) ?_
      refine k_getN X hW inG3 rfl 3 (by decide) fln_X0_96 rfl 7 rfl (v := .int ((u 6 3) - (nI 1))) rfl dX0_leaveRow_29 ?_
      refine lv_icmp_le (tgt := 46) hx hb dX0_leaveRow_32 (by decide) (fun c_16 => ?_) (fun c_16 => ?_)
      · refine lv_iinc (v := nI 3) (lv' := [(4, .int (nI 3)), (5, .ref (a 9)), (3, .int (nI 3)), (2, .ref (a 2)), (0, .ref (a 0)), (1, .ref (a 7))]) hx hb dX0_leaveRow_46 hl (k := 1) rfl (k_inc _) (by decide) rfl (fun ls hl => ?_)
        refine lv_goto (tgt := 11) hx hb dX0_leaveRow_49 (by decide) ?_
        refine lv_iload hx hb dX0_leaveRow_11 (lv_at hl 0 rfl) ?_
        refine lv_iload_n hx hb dX0_leaveRow_13 rfl (lv_at hl 2 rfl) ?_
        refine lv_icmp_ge (tgt := 52) hx hb dX0_leaveRow_14 (by decide) (fun _ => ?_) (fun c => absurd (by decide +kernel) c)
        refine lv_aload_n hx hb dX0_leaveRow_52 rfl (lv_at hl 5 rfl) ?_
        refine lv_iconst (v := (-1)) hx hb dX0_leaveRow_53 (by decide +kernel) ?_
        refine k_putN X hW inG3 rfl tyX3_ok nmX3 3 (by decide) fln_X0_96 rfl rfl 7 rfl rfl rfl (Nat.le_of_ble_eq_true rfl) dX0_leaveRow_54 (w' := cardW k a (st2 u 6 (upd (u 6) 3 (-1)))) rfl (fun H locs hW => ?_)
        exact hQ _ _ _ _ _ hW dX0_leaveRow_57 (by rw [m_X0_leaveRow_0_u, if_neg c_2, if_pos c_14, if_pos c_16])
      · refine lv_aload hx hb dX0_leaveRow_35 (lv_at hl 0 rfl) ?_
        refine lv_dup hx hb dX0_leaveRow_37 rfl ?_
        refine k_getN X hW inG3 rfl 3 (by decide) fln_X0_96 rfl 9 rfl (v := .int (u 8 3)) rfl dX0_leaveRow_38 ?_
        refine lv_iconst (v := nI 1) hx hb dX0_leaveRow_41 (by decide +kernel) ?_
        refine lv_isub hx hb dX0_leaveRow_42 ?_
        refine k_putN X hW inG3 rfl tyX3_ok nmX3 3 (by decide) fln_X0_96 rfl rfl 9 rfl rfl rfl (Nat.le_of_ble_eq_true rfl) dX0_leaveRow_43 (w' := cardW k a (st2 (st2 u 6 (upd (u 6) 3 ((u 6 3) - (nI 1)))) 8 (upd (u 8) 3 ((u 8 3) - (nI 1))))) rfl (fun H locs hW => ?_)
        refine lv_iinc (v := nI 3) (lv' := [(4, .int (nI 3)), (5, .ref (a 9)), (3, .int (nI 3)), (2, .ref (a 2)), (0, .ref (a 0)), (1, .ref (a 7))]) hx hb dX0_leaveRow_46 hl (k := 1) rfl (k_inc _) (by decide) rfl (fun ls hl => ?_)
        refine lv_goto (tgt := 11) hx hb dX0_leaveRow_49 (by decide) ?_
        refine lv_iload hx hb dX0_leaveRow_11 (lv_at hl 0 rfl) ?_
        refine lv_iload_n hx hb dX0_leaveRow_13 rfl (lv_at hl 2 rfl) ?_
        refine lv_icmp_ge (tgt := 52) hx hb dX0_leaveRow_14 (by decide) (fun _ => ?_) (fun c => absurd (by decide +kernel) c)
        refine lv_aload_n hx hb dX0_leaveRow_52 rfl (lv_at hl 5 rfl) ?_
        refine lv_iconst (v := (-1)) hx hb dX0_leaveRow_53 (by decide +kernel) ?_
        refine k_putN X hW inG3 rfl tyX3_ok nmX3 3 (by decide) fln_X0_96 rfl rfl 7 rfl rfl rfl (Nat.le_of_ble_eq_true rfl) dX0_leaveRow_54 (w' := cardW k a (st2 (st2 u 6 (upd (u 6) 3 (-1))) 8 (upd (u 8) 3 ((u 8 3) - (nI 1))))) rfl (fun H locs hW => ?_)
        exact hQ _ _ _ _ _ hW dX0_leaveRow_57 (by rw [m_X0_leaveRow_0_u, if_neg c_2, if_pos c_14, if_neg c_16])
    · refine lv_aload hx hb dX0_leaveRow_35 (lv_at hl 0 rfl) ?_
      refine lv_dup hx hb dX0_leaveRow_37 rfl ?_
      refine k_getN X hW inG3 rfl 3 (by decide) fln_X0_96 rfl 8 rfl (v := .int (u 7 3)) rfl dX0_leaveRow_38 ?_
      refine lv_iconst (v := nI 1) hx hb dX0_leaveRow_41 (by decide +kernel) ?_
      refine lv_isub hx hb dX0_leaveRow_42 ?_
      refine k_putN X hW inG3 rfl tyX3_ok nmX3 3 (by decide) fln_X0_96 rfl rfl 8 rfl rfl rfl (Nat.le_of_ble_eq_true rfl) dX0_leaveRow_43 (w' := cardW k a (st2 (st2 u 6 (upd (u 6) 3 ((u 6 3) - (nI 1)))) 7 (upd (u 7) 3 ((u 7 3) - (nI 1))))) rfl (fun H locs hW => ?_)
      refine lv_iinc (v := nI 2) (lv' := [(4, .int (nI 2)), (5, .ref (a 8)), (3, .int (nI 3)), (2, .ref (a 2)), (0, .ref (a 0)), (1, .ref (a 7))]) hx hb dX0_leaveRow_46 hl (k := 1) rfl (k_inc _) (by decide) rfl (fun ls hl => ?_)
      refine lv_goto (tgt := 11) hx hb dX0_leaveRow_49 (by decide) ?_
      refine lv_iload hx hb dX0_leaveRow_11 (lv_at hl 0 rfl) ?_
      refine lv_iload_n hx hb dX0_leaveRow_13 rfl (lv_at hl 2 rfl) ?_
      refine lv_icmp_ge (tgt := 52) hx hb dX0_leaveRow_14 (by decide) (fun c => absurd c (by decide +kernel)) (fun _ => ?_)
      refine lv_aload_n hx hb dX0_leaveRow_17 rfl (lv_at hl 3 rfl) ?_
      refine lv_iload hx hb dX0_leaveRow_18 (lv_at hl 0 rfl) ?_
      refine k_aald X hW 2 1 rfl rfl (j := 2) (b := a 9) rfl (by decide) (by decide) rfl dX0_leaveRow_20 ?_
      refine lv_astore (lv' := [(5, .ref (a 9)), (4, .int (nI 2)), (3, .int (nI 3)), (2, .ref (a 2)), (0, .ref (a 0)), (1, .ref (a 7))]) hx hb dX0_leaveRow_21 hl (by decide) rfl (fun ls hl => ?_)
      refine lv_aload hx hb dX0_leaveRow_23 (lv_at hl 0 rfl) ?_
      refine k_getN X hW inG3 rfl 3 (by decide) fln_X0_96 rfl 9 rfl (v := .int (u 8 3)) rfl dX0_leaveRow_25 ?_
      refine lv_aload_n hx hb dX0_leaveRow_28 rfl (lv_at hl 5 rfl) ?_
      refine k_getN X hW inG3 rfl 3 (by decide) fln_X0_96 rfl 7 rfl (v := .int ((u 6 3) - (nI 1))) rfl dX0_leaveRow_29 ?_
      refine lv_icmp_le (tgt := 46) hx hb dX0_leaveRow_32 (by decide) (fun c_20 => ?_) (fun c_20 => ?_)
      · refine lv_iinc (v := nI 3) (lv' := [(4, .int (nI 3)), (5, .ref (a 9)), (3, .int (nI 3)), (2, .ref (a 2)), (0, .ref (a 0)), (1, .ref (a 7))]) hx hb dX0_leaveRow_46 hl (k := 1) rfl (k_inc _) (by decide) rfl (fun ls hl => ?_)
        refine lv_goto (tgt := 11) hx hb dX0_leaveRow_49 (by decide) ?_
        refine lv_iload hx hb dX0_leaveRow_11 (lv_at hl 0 rfl) ?_
        refine lv_iload_n hx hb dX0_leaveRow_13 rfl (lv_at hl 2 rfl) ?_
        refine lv_icmp_ge (tgt := 52) hx hb dX0_leaveRow_14 (by decide) (fun _ => ?_) (fun c => absurd (by decide +kernel) c)
        refine lv_aload_n hx hb dX0_leaveRow_52 rfl (lv_at hl 5 rfl) ?_
        refine lv_iconst (v := (-1)) hx hb dX0_leaveRow_53 (by decide +kernel) ?_
        refine k_putN X hW inG3 rfl tyX3_ok nmX3 3 (by decide) fln_X0_96 rfl rfl 7 rfl rfl rfl (Nat.le_of_ble_eq_true rfl) dX0_leaveRow_54 (w' := cardW k a (st2 (st2 u 6 (upd (u 6) 3 (-1))) 7 (upd (u 7) 3 ((u 7 3) - (nI 1))))) rfl (fun H locs hW => ?_)
        exact hQ _ _ _ _ _ hW dX0_leaveRow_57 (by rw [m_X0_leaveRow_0_u, if_neg c_2, if_neg c_14, if_pos c_20])
      · refine lv_aload hx hb dX0_leaveRow_35 (lv_at hl 0 rfl) ?_
        refine lv_dup hx hb dX0_leaveRow_37 rfl ?_
        refine k_getN X hW inG3 rfl 3 (by decide) fln_X0_96 rfl 9 rfl (v := .int (u 8 3)) rfl dX0_leaveRow_38 ?_
        refine lv_iconst (v := nI 1) hx hb dX0_leaveRow_41 (by decide +kernel) ?_
        refine lv_isub hx hb dX0_leaveRow_42 ?_
        refine k_putN X hW inG3 rfl tyX3_ok nmX3 3 (by decide) fln_X0_96 rfl rfl 9 rfl rfl rfl (Nat.le_of_ble_eq_true rfl) dX0_leaveRow_43 (w' := cardW k a (st2 (st2 (st2 u 6 (upd (u 6) 3 ((u 6 3) - (nI 1)))) 7 (upd (u 7) 3 ((u 7 3) - (nI 1)))) 8 (upd (u 8) 3 ((u 8 3) - (nI 1))))) rfl (fun H locs hW => ?_)
        refine lv_iinc (v := nI 3) (lv' := [(4, .int (nI 3)), (5, .ref (a 9)), (3, .int (nI 3)), (2, .ref (a 2)), (0, .ref (a 0)), (1, .ref (a 7))]) hx hb dX0_leaveRow_46 hl (k := 1) rfl (k_inc _) (by decide) rfl (fun ls hl => ?_)
        refine lv_goto (tgt := 11) hx hb dX0_leaveRow_49 (by decide) ?_
        refine lv_iload hx hb dX0_leaveRow_11 (lv_at hl 0 rfl) ?_
        refine lv_iload_n hx hb dX0_leaveRow_13 rfl (lv_at hl 2 rfl) ?_
        refine lv_icmp_ge (tgt := 52) hx hb dX0_leaveRow_14 (by decide) (fun _ => ?_) (fun c => absurd (by decide +kernel) c)
        refine lv_aload_n hx hb dX0_leaveRow_52 rfl (lv_at hl 5 rfl) ?_
        refine lv_iconst (v := (-1)) hx hb dX0_leaveRow_53 (by decide +kernel) ?_
        refine k_putN X hW inG3 rfl tyX3_ok nmX3 3 (by decide) fln_X0_96 rfl rfl 7 rfl rfl rfl (Nat.le_of_ble_eq_true rfl) dX0_leaveRow_54 (w' := cardW k a (st2 (st2 (st2 u 6 (upd (u 6) 3 (-1))) 7 (upd (u 7) 3 ((u 7 3) - (nI 1)))) 8 (upd (u 8) 3 ((u 8 3) - (nI 1))))) rfl (fun H locs hW => ?_)
        exact hQ _ _ _ _ _ hW dX0_leaveRow_57 (by rw [m_X0_leaveRow_0_u, if_neg c_2, if_neg c_14, if_neg c_20])
set_option maxHeartbeats 4000000 in
theorem CM_X0_leaveRow_0 {u : CS}  (h : CM u) : CM (m_X0_leaveRow_0_u u) := by
  rw [m_X0_leaveRow_0_u]
  split
  · split
    · split
      · exact (CM_stc h (by decide) (by decide))
      · exact (CM_stc (CM_stc h (by decide) (by decide)) (by decide) (by decide))
    · split
      · exact (CM_stc (CM_stc h (by decide) (by decide)) (by decide) (by decide))
      · exact (CM_stc (CM_stc (CM_stc h (by decide) (by decide)) (by decide) (by decide)) (by decide) (by decide))
  · split
    · split
      · exact (CM_stc h (by decide) (by decide))
      · exact (CM_stc (CM_stc h (by decide) (by decide)) (by decide) (by decide))
    · split
      · exact (CM_stc (CM_stc h (by decide) (by decide)) (by decide) (by decide))
      · exact (CM_stc (CM_stc (CM_stc h (by decide) (by decide)) (by decide) (by decide)) (by decide) (by decide))
def m_X0_leaveRow_1_u (u : CS) : CS := if u 6 3 ≤ u 7 3 then (if u 7 3 ≤ u 7 3 then (if u 8 3 ≤ u 7 3 then st2 u 7 (upd (u 7) 3 (-1)) else st2 (st2 u 7 (upd (u 7) 3 (-1))) 8 (upd (u 8) 3 ((u 8 3) - (nI 1)))) else if u 8 3 ≤ (u 7 3) - (nI 1) then st2 u 7 (upd (u 7) 3 (-1)) else st2 (st2 u 7 (upd (u 7) 3 (-1))) 8 (upd (u 8) 3 ((u 8 3) - (nI 1)))) else if u 7 3 ≤ u 7 3 then (if u 8 3 ≤ u 7 3 then st2 (st2 u 6 (upd (u 6) 3 ((u 6 3) - (nI 1)))) 7 (upd (u 7) 3 (-1)) else st2 (st2 (st2 u 6 (upd (u 6) 3 ((u 6 3) - (nI 1)))) 7 (upd (u 7) 3 (-1))) 8 (upd (u 8) 3 ((u 8 3) - (nI 1)))) else if u 8 3 ≤ (u 7 3) - (nI 1) then st2 (st2 u 6 (upd (u 6) 3 ((u 6 3) - (nI 1)))) 7 (upd (u 7) 3 (-1)) else st2 (st2 (st2 u 6 (upd (u 6) 3 ((u 6 3) - (nI 1)))) 7 (upd (u 7) 3 (-1))) 8 (upd (u 8) 3 ((u 8 3) - (nI 1)))
set_option maxHeartbeats 4000000 in
set_option maxRecDepth 100000 in
theorem c_X0_leaveRow_1 (l : Launch) (D : va_G) (k : Nat → ClassId) (a : Nat → Nat) (u : CS)   : mV l yX0_leaveRow (wsY yX0_leaveRow cX0_leaveRow 6 none) 0 D k [.ref (a 0), .ref (a 8)] (cardW k a u) (cardW k a (m_X0_leaveRow_1_u u)) := by
  refine mV_intro rfl (Nat.le_of_ble_eq_true rfl) ?_
  intro p e s m args below meth c A Q ls X hW hl hQ
  have hx := X.hx
  have hb := X.hb
  have hl : lv_has ls 6 [(0, .ref (a 0)), (1, .ref (a 8))] := hl
  refine lv_aload_n hx hb dX0_leaveRow_0 rfl (lv_at hl 0 rfl) ?_
  refine k_get X hW inG0 rfl 1 (by decide) fl_X0_20 rfl 0 rfl (v := .ref (a 2)) rfl dX0_leaveRow_1 ?_
  refine lv_astore_n (lv' := [(2, .ref (a 2)), (0, .ref (a 0)), (1, .ref (a 8))]) hx hb dX0_leaveRow_4 rfl hl (by decide) rfl (fun ls hl => ?_)
  refine lv_aload_n hx hb dX0_leaveRow_5 rfl (lv_at hl 0 rfl) ?_
  refine k_alen X hW 2 1 rfl rfl (v := nI 3) rfl dX0_leaveRow_6 ?_
  refine lv_istore_n (lv' := [(3, .int (nI 3)), (2, .ref (a 2)), (0, .ref (a 0)), (1, .ref (a 8))]) hx hb dX0_leaveRow_7 rfl hl (by decide) rfl (fun ls hl => ?_)
  refine lv_iconst (v := nI 0) hx hb dX0_leaveRow_8 (by decide +kernel) ?_
  refine lv_istore (lv' := [(4, .int (nI 0)), (3, .int (nI 3)), (2, .ref (a 2)), (0, .ref (a 0)), (1, .ref (a 8))]) hx hb dX0_leaveRow_9 hl (by decide) rfl (fun ls hl => ?_)
  refine lv_iload hx hb dX0_leaveRow_11 (lv_at hl 0 rfl) ?_
  refine lv_iload_n hx hb dX0_leaveRow_13 rfl (lv_at hl 1 rfl) ?_
  refine lv_icmp_ge (tgt := 52) hx hb dX0_leaveRow_14 (by decide) (fun c => absurd c (by decide +kernel)) (fun _ => ?_)
  refine lv_aload_n hx hb dX0_leaveRow_17 rfl (lv_at hl 2 rfl) ?_
  refine lv_iload hx hb dX0_leaveRow_18 (lv_at hl 0 rfl) ?_
  refine k_aald X hW 2 1 rfl rfl (j := 0) (b := a 7) rfl (by decide) (by decide) rfl dX0_leaveRow_20 ?_
  refine lv_astore (lv' := [(5, .ref (a 7)), (4, .int (nI 0)), (3, .int (nI 3)), (2, .ref (a 2)), (0, .ref (a 0)), (1, .ref (a 8))]) hx hb dX0_leaveRow_21 hl (by decide) rfl (fun ls hl => ?_)
  refine lv_aload hx hb dX0_leaveRow_23 (lv_at hl 0 rfl) ?_
  refine k_getN X hW inG3 rfl 3 (by decide) fln_X0_96 rfl 7 rfl (v := .int (u 6 3)) rfl dX0_leaveRow_25 ?_
  refine lv_aload_n hx hb dX0_leaveRow_28 rfl (lv_at hl 5 rfl) ?_
  refine k_getN X hW inG3 rfl 3 (by decide) fln_X0_96 rfl 8 rfl (v := .int (u 7 3)) rfl dX0_leaveRow_29 ?_
  refine lv_icmp_le (tgt := 46) hx hb dX0_leaveRow_32 (by decide) (fun c_2 => ?_) (fun c_2 => ?_)
  · refine lv_iinc (v := nI 1) (lv' := [(4, .int (nI 1)), (5, .ref (a 7)), (3, .int (nI 3)), (2, .ref (a 2)), (0, .ref (a 0)), (1, .ref (a 8))]) hx hb dX0_leaveRow_46 hl (k := 1) rfl (k_inc _) (by decide) rfl (fun ls hl => ?_)
    refine lv_goto (tgt := 11) hx hb dX0_leaveRow_49 (by decide) ?_
    refine lv_iload hx hb dX0_leaveRow_11 (lv_at hl 0 rfl) ?_
    refine lv_iload_n hx hb dX0_leaveRow_13 rfl (lv_at hl 2 rfl) ?_
    refine lv_icmp_ge (tgt := 52) hx hb dX0_leaveRow_14 (by decide) (fun c => absurd c (by decide +kernel)) (fun _ => ?_)
    refine lv_aload_n hx hb dX0_leaveRow_17 rfl (lv_at hl 3 rfl) ?_
    refine lv_iload hx hb dX0_leaveRow_18 (lv_at hl 0 rfl) ?_
    refine k_aald X hW 2 1 rfl rfl (j := 1) (b := a 8) rfl (by decide) (by decide) rfl dX0_leaveRow_20 ?_
    refine lv_astore (lv' := [(5, .ref (a 8)), (4, .int (nI 1)), (3, .int (nI 3)), (2, .ref (a 2)), (0, .ref (a 0)), (1, .ref (a 8))]) hx hb dX0_leaveRow_21 hl (by decide) rfl (fun ls hl => ?_)
    refine lv_aload hx hb dX0_leaveRow_23 (lv_at hl 0 rfl) ?_
    refine k_getN X hW inG3 rfl 3 (by decide) fln_X0_96 rfl 8 rfl (v := .int (u 7 3)) rfl dX0_leaveRow_25 ?_
    refine lv_aload_n hx hb dX0_leaveRow_28 rfl (lv_at hl 5 rfl) ?_
    refine k_getN X hW inG3 rfl 3 (by decide) fln_X0_96 rfl 8 rfl (v := .int (u 7 3)) rfl dX0_leaveRow_29 ?_
    refine lv_icmp_le (tgt := 46) hx hb dX0_leaveRow_32 (by decide) (fun c_4 => ?_) (fun c_4 => ?_)
    · refine lv_iinc (v := nI 2) (lv' := [(4, .int (nI 2)), (5, .ref (a 8)), (3, .int (nI 3)), (2, .ref (a 2)), (0, .ref (a 0)), (1, .ref (a 8))]) hx hb dX0_leaveRow_46 hl (k := 1) rfl (k_inc _) (by decide) rfl (fun ls hl => ?_)
      refine lv_goto (tgt := 11) hx hb dX0_leaveRow_49 (by decide) ?_
      refine lv_iload hx hb dX0_leaveRow_11 (lv_at hl 0 rfl) ?_
      refine lv_iload_n hx hb dX0_leaveRow_13 rfl (lv_at hl 2 rfl) ?_
      refine lv_icmp_ge (tgt := 52) hx hb dX0_leaveRow_14 (by decide) (fun c => absurd c (by decide +kernel)) (fun _ => ?_)
      refine lv_aload_n hx hb dX0_leaveRow_17 rfl (lv_at hl 3 rfl) ?_
      refine lv_iload hx hb dX0_leaveRow_18 (lv_at hl 0 rfl) ?_
      refine k_aald X hW 2 1 rfl rfl (j := 2) (b := a 9) rfl (by decide) (by decide) rfl dX0_leaveRow_20 ?_
      refine lv_astore (lv' := [(5, .ref (a 9)), (4, .int (nI 2)), (3, .int (nI 3)), (2, .ref (a 2)), (0, .ref (a 0)), (1, .ref (a 8))]) hx hb dX0_leaveRow_21 hl (by decide) rfl (fun ls hl => ?_)
      refine lv_aload hx hb dX0_leaveRow_23 (lv_at hl 0 rfl) ?_
      refine k_getN X hW inG3 rfl 3 (by decide) fln_X0_96 rfl 9 rfl (v := .int (u 8 3)) rfl dX0_leaveRow_25 ?_
      refine lv_aload_n hx hb dX0_leaveRow_28 rfl (lv_at hl 5 rfl) ?_
      refine k_getN X hW inG3 rfl 3 (by decide) fln_X0_96 rfl 8 rfl (v := .int (u 7 3)) rfl dX0_leaveRow_29 ?_
      refine lv_icmp_le (tgt := 46) hx hb dX0_leaveRow_32 (by decide) (fun c_6 => ?_) (fun c_6 => ?_)
      · refine lv_iinc (v := nI 3) (lv' := [(4, .int (nI 3)), (5, .ref (a 9)), (3, .int (nI 3)), (2, .ref (a 2)), (0, .ref (a 0)), (1, .ref (a 8))]) hx hb dX0_leaveRow_46 hl (k := 1) rfl (k_inc _) (by decide) rfl (fun ls hl => ?_)
        refine lv_goto (tgt := 11) hx hb dX0_leaveRow_49 (by decide) ?_
        refine lv_iload hx hb dX0_leaveRow_11 (lv_at hl 0 rfl) ?_
        refine lv_iload_n hx hb dX0_leaveRow_13 rfl (lv_at hl 2 rfl) ?_
        refine lv_icmp_ge (tgt := 52) hx hb dX0_leaveRow_14 (by decide) (fun _ => ?_) (fun c => absurd (by decide +kernel) c)
        refine lv_aload_n hx hb dX0_leaveRow_52 rfl (lv_at hl 5 rfl) ?_
        refine lv_iconst (v := (-1)) hx hb dX0_leaveRow_53 (by decide +kernel) ?_
        refine k_putN X hW inG3 rfl tyX3_ok nmX3 3 (by decide) fln_X0_96 rfl rfl 8 rfl rfl rfl (Nat.le_of_ble_eq_true rfl) dX0_leaveRow_54 (w' := cardW k a (st2 u 7 (upd (u 7) 3 (-1)))) rfl (fun H locs hW => ?_)
        exact hQ _ _ _ _ _ hW dX0_leaveRow_57 (by rw [m_X0_leaveRow_1_u, if_pos c_2, if_pos c_4, if_pos c_6])
      · refine lv_aload hx hb dX0_leaveRow_35 (lv_at hl 0 rfl) ?_
        refine lv_dup hx hb dX0_leaveRow_37 rfl ?_
        refine k_getN X hW inG3 rfl 3 (by decide) fln_X0_96 rfl 9 rfl (v := .int (u 8 3)) rfl dX0_leaveRow_38 ?_
        refine lv_iconst (v := nI 1) hx hb dX0_leaveRow_41 (by decide +kernel) ?_
        refine lv_isub hx hb dX0_leaveRow_42 ?_
        refine k_putN X hW inG3 rfl tyX3_ok nmX3 3 (by decide) fln_X0_96 rfl rfl 9 rfl rfl rfl (Nat.le_of_ble_eq_true rfl) dX0_leaveRow_43 (w' := cardW k a (st2 u 8 (upd (u 8) 3 ((u 8 3) - (nI 1))))) rfl (fun H locs hW => ?_)
        refine lv_iinc (v := nI 3) (lv' := [(4, .int (nI 3)), (5, .ref (a 9)), (3, .int (nI 3)), (2, .ref (a 2)), (0, .ref (a 0)), (1, .ref (a 8))]) hx hb dX0_leaveRow_46 hl (k := 1) rfl (k_inc _) (by decide) rfl (fun ls hl => ?_)
        refine lv_goto (tgt := 11) hx hb dX0_leaveRow_49 (by decide) ?_
        refine lv_iload hx hb dX0_leaveRow_11 (lv_at hl 0 rfl) ?_
        refine lv_iload_n hx hb dX0_leaveRow_13 rfl (lv_at hl 2 rfl) ?_
        refine lv_icmp_ge (tgt := 52) hx hb dX0_leaveRow_14 (by decide) (fun _ => ?_) (fun c => absurd (by decide +kernel) c)
        refine lv_aload_n hx hb dX0_leaveRow_52 rfl (lv_at hl 5 rfl) ?_
        refine lv_iconst (v := (-1)) hx hb dX0_leaveRow_53 (by decide +kernel) ?_
        refine k_putN X hW inG3 rfl tyX3_ok nmX3 3 (by decide) fln_X0_96 rfl rfl 8 rfl rfl rfl (Nat.le_of_ble_eq_true rfl) dX0_leaveRow_54 (w' := cardW k a (st2 (st2 u 7 (upd (u 7) 3 (-1))) 8 (upd (u 8) 3 ((u 8 3) - (nI 1))))) rfl (fun H locs hW => ?_)
        exact hQ _ _ _ _ _ hW dX0_leaveRow_57 (by rw [m_X0_leaveRow_1_u, if_pos c_2, if_pos c_4, if_neg c_6])
    · refine lv_aload hx hb dX0_leaveRow_35 (lv_at hl 0 rfl) ?_
      refine lv_dup hx hb dX0_leaveRow_37 rfl ?_
      refine k_getN X hW inG3 rfl 3 (by decide) fln_X0_96 rfl 8 rfl (v := .int (u 7 3)) rfl dX0_leaveRow_38 ?_
      refine lv_iconst (v := nI 1) hx hb dX0_leaveRow_41 (by decide +kernel) ?_
      refine lv_isub hx hb dX0_leaveRow_42 ?_
      refine k_putN X hW inG3 rfl tyX3_ok nmX3 3 (by decide) fln_X0_96 rfl rfl 8 rfl rfl rfl (Nat.le_of_ble_eq_true rfl) dX0_leaveRow_43 (w' := cardW k a (st2 u 7 (upd (u 7) 3 ((u 7 3) - (nI 1))))) rfl (fun H locs hW => ?_)
      refine lv_iinc (v := nI 2) (lv' := [(4, .int (nI 2)), (5, .ref (a 8)), (3, .int (nI 3)), (2, .ref (a 2)), (0, .ref (a 0)), (1, .ref (a 8))]) hx hb dX0_leaveRow_46 hl (k := 1) rfl (k_inc _) (by decide) rfl (fun ls hl => ?_)
      refine lv_goto (tgt := 11) hx hb dX0_leaveRow_49 (by decide) ?_
      refine lv_iload hx hb dX0_leaveRow_11 (lv_at hl 0 rfl) ?_
      refine lv_iload_n hx hb dX0_leaveRow_13 rfl (lv_at hl 2 rfl) ?_
      refine lv_icmp_ge (tgt := 52) hx hb dX0_leaveRow_14 (by decide) (fun c => absurd c (by decide +kernel)) (fun _ => ?_)
      refine lv_aload_n hx hb dX0_leaveRow_17 rfl (lv_at hl 3 rfl) ?_
      refine lv_iload hx hb dX0_leaveRow_18 (lv_at hl 0 rfl) ?_
      refine k_aald X hW 2 1 rfl rfl (j := 2) (b := a 9) rfl (by decide) (by decide) rfl dX0_leaveRow_20 ?_
      refine lv_astore (lv' := [(5, .ref (a 9)), (4, .int (nI 2)), (3, .int (nI 3)), (2, .ref (a 2)), (0, .ref (a 0)), (1, .ref (a 8))]) hx hb dX0_leaveRow_21 hl (by decide) rfl (fun ls hl => ?_)
      refine lv_aload hx hb dX0_leaveRow_23 (lv_at hl 0 rfl) ?_
      refine k_getN X hW inG3 rfl 3 (by decide) fln_X0_96 rfl 9 rfl (v := .int (u 8 3)) rfl dX0_leaveRow_25 ?_
      refine lv_aload_n hx hb dX0_leaveRow_28 rfl (lv_at hl 5 rfl) ?_
      refine k_getN X hW inG3 rfl 3 (by decide) fln_X0_96 rfl 8 rfl (v := .int ((u 7 3) - (nI 1))) rfl dX0_leaveRow_29 ?_
      refine lv_icmp_le (tgt := 46) hx hb dX0_leaveRow_32 (by decide) (fun c_10 => ?_) (fun c_10 => ?_)
      · refine lv_iinc (v := nI 3) (lv' := [(4, .int (nI 3)), (5, .ref (a 9)), (3, .int (nI 3)), (2, .ref (a 2)), (0, .ref (a 0)), (1, .ref (a 8))]) hx hb dX0_leaveRow_46 hl (k := 1) rfl (k_inc _) (by decide) rfl (fun ls hl => ?_)
        refine lv_goto (tgt := 11) hx hb dX0_leaveRow_49 (by decide) ?_
        refine lv_iload hx hb dX0_leaveRow_11 (lv_at hl 0 rfl) ?_
        refine lv_iload_n hx hb dX0_leaveRow_13 rfl (lv_at hl 2 rfl) ?_
        refine lv_icmp_ge (tgt := 52) hx hb dX0_leaveRow_14 (by decide) (fun _ => ?_) (fun c => absurd (by decide +kernel) c)
        refine lv_aload_n hx hb dX0_leaveRow_52 rfl (lv_at hl 5 rfl) ?_
        refine lv_iconst (v := (-1)) hx hb dX0_leaveRow_53 (by decide +kernel) ?_
        refine k_putN X hW inG3 rfl tyX3_ok nmX3 3 (by decide) fln_X0_96 rfl rfl 8 rfl rfl rfl (Nat.le_of_ble_eq_true rfl) dX0_leaveRow_54 (w' := cardW k a (st2 u 7 (upd (u 7) 3 (-1)))) rfl (fun H locs hW => ?_)
        exact hQ _ _ _ _ _ hW dX0_leaveRow_57 (by rw [m_X0_leaveRow_1_u, if_pos c_2, if_neg c_4, if_pos c_10])
      · refine lv_aload hx hb dX0_leaveRow_35 (lv_at hl 0 rfl) ?_
        refine lv_dup hx hb dX0_leaveRow_37 rfl ?_
        refine k_getN X hW inG3 rfl 3 (by decide) fln_X0_96 rfl 9 rfl (v := .int (u 8 3)) rfl dX0_leaveRow_38 ?_
        refine lv_iconst (v := nI 1) hx hb dX0_leaveRow_41 (by decide +kernel) ?_
        refine lv_isub hx hb dX0_leaveRow_42 ?_
        refine k_putN X hW inG3 rfl tyX3_ok nmX3 3 (by decide) fln_X0_96 rfl rfl 9 rfl rfl rfl (Nat.le_of_ble_eq_true rfl) dX0_leaveRow_43 (w' := cardW k a (st2 (st2 u 7 (upd (u 7) 3 ((u 7 3) - (nI 1)))) 8 (upd (u 8) 3 ((u 8 3) - (nI 1))))) rfl (fun H locs hW => ?_)
        refine lv_iinc (v := nI 3) (lv' := [(4, .int (nI 3)), (5, .ref (a 9)), (3, .int (nI 3)), (2, .ref (a 2)), (0, .ref (a 0)), (1, .ref (a 8))]) hx hb dX0_leaveRow_46 hl (k := 1) rfl (k_inc _) (by decide) rfl (fun ls hl => ?_)
        refine lv_goto (tgt := 11) hx hb dX0_leaveRow_49 (by decide) ?_
        refine lv_iload hx hb dX0_leaveRow_11 (lv_at hl 0 rfl) ?_
        refine lv_iload_n hx hb dX0_leaveRow_13 rfl (lv_at hl 2 rfl) ?_
        refine lv_icmp_ge (tgt := 52) hx hb dX0_leaveRow_14 (by decide) (fun _ => ?_) (fun c => absurd (by decide +kernel) c)
        refine lv_aload_n hx hb dX0_leaveRow_52 rfl (lv_at hl 5 rfl) ?_
        refine lv_iconst (v := (-1)) hx hb dX0_leaveRow_53 (by decide +kernel) ?_
        refine k_putN X hW inG3 rfl tyX3_ok nmX3 3 (by decide) fln_X0_96 rfl rfl 8 rfl rfl rfl (Nat.le_of_ble_eq_true rfl) dX0_leaveRow_54 (w' := cardW k a (st2 (st2 u 7 (upd (u 7) 3 (-1))) 8 (upd (u 8) 3 ((u 8 3) - (nI 1))))) rfl (fun H locs hW => ?_)
        exact hQ _ _ _ _ _ hW dX0_leaveRow_57 (by rw [m_X0_leaveRow_1_u, if_pos c_2, if_neg c_4, if_neg c_10])
  · refine lv_aload hx hb dX0_leaveRow_35 (lv_at hl 0 rfl) ?_
    refine lv_dup hx hb dX0_leaveRow_37 rfl ?_
    refine k_getN X hW inG3 rfl 3 (by decide) fln_X0_96 rfl 7 rfl (v := .int (u 6 3)) rfl dX0_leaveRow_38 ?_
    refine lv_iconst (v := nI 1) hx hb dX0_leaveRow_41 (by decide +kernel) ?_
    refine lv_isub hx hb dX0_leaveRow_42 ?_
    refine k_putN X hW inG3 rfl tyX3_ok nmX3 3 (by decide) fln_X0_96 rfl rfl 7 rfl rfl rfl (Nat.le_of_ble_eq_true rfl) dX0_leaveRow_43 (w' := cardW k a (st2 u 6 (upd (u 6) 3 ((u 6 3) - (nI 1))))) rfl (fun H locs hW => ?_)
    refine lv_iinc (v := nI 1) (lv' := [(4, .int (nI 1)), (5, .ref (a 7)), (3, .int (nI 3)), (2, .ref (a 2)), (0, .ref (a 0)), (1, .ref (a 8))]) hx hb dX0_leaveRow_46 hl (k := 1) rfl (k_inc _) (by decide) rfl (fun ls hl => ?_)
    refine lv_goto (tgt := 11) hx hb dX0_leaveRow_49 (by decide) ?_
    refine lv_iload hx hb dX0_leaveRow_11 (lv_at hl 0 rfl) ?_
    refine lv_iload_n hx hb dX0_leaveRow_13 rfl (lv_at hl 2 rfl) ?_
    refine lv_icmp_ge (tgt := 52) hx hb dX0_leaveRow_14 (by decide) (fun c => absurd c (by decide +kernel)) (fun _ => ?_)
    refine lv_aload_n hx hb dX0_leaveRow_17 rfl (lv_at hl 3 rfl) ?_
    refine lv_iload hx hb dX0_leaveRow_18 (lv_at hl 0 rfl) ?_
    refine k_aald X hW 2 1 rfl rfl (j := 1) (b := a 8) rfl (by decide) (by decide) rfl dX0_leaveRow_20 ?_
    refine lv_astore (lv' := [(5, .ref (a 8)), (4, .int (nI 1)), (3, .int (nI 3)), (2, .ref (a 2)), (0, .ref (a 0)), (1, .ref (a 8))]) hx hb dX0_leaveRow_21 hl (by decide) rfl (fun ls hl => ?_)
    refine lv_aload hx hb dX0_leaveRow_23 (lv_at hl 0 rfl) ?_
    refine k_getN X hW inG3 rfl 3 (by decide) fln_X0_96 rfl 8 rfl (v := .int (u 7 3)) rfl dX0_leaveRow_25 ?_
    refine lv_aload_n hx hb dX0_leaveRow_28 rfl (lv_at hl 5 rfl) ?_
    refine k_getN X hW inG3 rfl 3 (by decide) fln_X0_96 rfl 8 rfl (v := .int (u 7 3)) rfl dX0_leaveRow_29 ?_
    refine lv_icmp_le (tgt := 46) hx hb dX0_leaveRow_32 (by decide) (fun c_14 => ?_) (fun c_14 => ?_)
    · refine lv_iinc (v := nI 2) (lv' := [(4, .int (nI 2)), (5, .ref (a 8)), (3, .int (nI 3)), (2, .ref (a 2)), (0, .ref (a 0)), (1, .ref (a 8))]) hx hb dX0_leaveRow_46 hl (k := 1) rfl (k_inc _) (by decide) rfl (fun ls hl => ?_)
      refine lv_goto (tgt := 11) hx hb dX0_leaveRow_49 (by decide) ?_
      refine lv_iload hx hb dX0_leaveRow_11 (lv_at hl 0 rfl) ?_
      refine lv_iload_n hx hb dX0_leaveRow_13 rfl (lv_at hl 2 rfl) ?_
      refine lv_icmp_ge (tgt := 52) hx hb dX0_leaveRow_14 (by decide) (fun c => absurd c (by decide +kernel)) (fun _ => ?_)
      refine lv_aload_n hx hb dX0_leaveRow_17 rfl (lv_at hl 3 rfl) ?_
      refine lv_iload hx hb dX0_leaveRow_18 (lv_at hl 0 rfl) ?_
      refine k_aald X hW 2 1 rfl rfl (j := 2) (b := a 9) rfl (by decide) (by decide) rfl dX0_leaveRow_20 ?_
      refine lv_astore (lv' := [(5, .ref (a 9)), (4, .int (nI 2)), (3, .int (nI 3)), (2, .ref (a 2)), (0, .ref (a 0)), (1, .ref (a 8))]) hx hb dX0_leaveRow_21 hl (by decide) rfl (fun ls hl => ?_)
      refine lv_aload hx hb dX0_leaveRow_23 (lv_at hl 0 rfl) ?_
      refine k_getN X hW inG3 rfl 3 (by decide) fln_X0_96 rfl 9 rfl (v := .int (u 8 3)) rfl dX0_leaveRow_25 ?_
      refine lv_aload_n hx hb dX0_leaveRow_28 rfl (lv_at hl 5 rfl) ?_
      refine k_getN X hW inG3 rfl 3 (by decide) fln_X0_96 rfl 8 rfl (v := .int (u 7 3)) rfl dX0_leaveRow_29 ?_
      refine lv_icmp_le (tgt := 46) hx hb dX0_leaveRow_32 (by decide) (fun c_16 => ?_) (fun c_16 => ?_)
      · refine lv_iinc (v := nI 3) (lv' := [(4, .int (nI 3)), (5, .ref (a 9)), (3, .int (nI 3)), (2, .ref (a 2)), (0, .ref (a 0)), (1, .ref (a 8))]) hx hb dX0_leaveRow_46 hl (k := 1) rfl (k_inc _) (by decide) rfl (fun ls hl => ?_)
        refine lv_goto (tgt := 11) hx hb dX0_leaveRow_49 (by decide) ?_
        refine lv_iload hx hb dX0_leaveRow_11 (lv_at hl 0 rfl) ?_
        refine lv_iload_n hx hb dX0_leaveRow_13 rfl (lv_at hl 2 rfl) ?_
        refine lv_icmp_ge (tgt := 52) hx hb dX0_leaveRow_14 (by decide) (fun _ => ?_) (fun c => absurd (by decide +kernel) c)
        refine lv_aload_n hx hb dX0_leaveRow_52 rfl (lv_at hl 5 rfl) ?_
        refine lv_iconst (v := (-1)) hx hb dX0_leaveRow_53 (by decide +kernel) ?_
        refine k_putN X hW inG3 rfl tyX3_ok nmX3 3 (by decide) fln_X0_96 rfl rfl 8 rfl rfl rfl (Nat.le_of_ble_eq_true rfl) dX0_leaveRow_54 (w' := cardW k a (st2 (st2 u 6 (upd (u 6) 3 ((u 6 3) - (nI 1)))) 7 (upd (u 7) 3 (-1)))) rfl (fun H locs hW => ?_)
        exact hQ _ _ _ _ _ hW dX0_leaveRow_57 (by rw [m_X0_leaveRow_1_u, if_neg c_2, if_pos c_14, if_pos c_16])
      · refine lv_aload hx hb dX0_leaveRow_35 (lv_at hl 0 rfl) ?_
        refine lv_dup hx hb dX0_leaveRow_37 rfl ?_
        refine k_getN X hW inG3 rfl 3 (by decide) fln_X0_96 rfl 9 rfl (v := .int (u 8 3)) rfl dX0_leaveRow_38 ?_
        refine lv_iconst (v := nI 1) hx hb dX0_leaveRow_41 (by decide +kernel) ?_
        refine lv_isub hx hb dX0_leaveRow_42 ?_
        refine k_putN X hW inG3 rfl tyX3_ok nmX3 3 (by decide) fln_X0_96 rfl rfl 9 rfl rfl rfl (Nat.le_of_ble_eq_true rfl) dX0_leaveRow_43 (w' := cardW k a (st2 (st2 u 6 (upd (u 6) 3 ((u 6 3) - (nI 1)))) 8 (upd (u 8) 3 ((u 8 3) - (nI 1))))) rfl (fun H locs hW => ?_)
        refine lv_iinc (v := nI 3) (lv' := [(4, .int (nI 3)), (5, .ref (a 9)), (3, .int (nI 3)), (2, .ref (a 2)), (0, .ref (a 0)), (1, .ref (a 8))]) hx hb dX0_leaveRow_46 hl (k := 1) rfl (k_inc _) (by decide) rfl (fun ls hl => ?_)
        refine lv_goto (tgt := 11) hx hb dX0_leaveRow_49 (by decide) ?_
        refine lv_iload hx hb dX0_leaveRow_11 (lv_at hl 0 rfl) ?_
        refine lv_iload_n hx hb dX0_leaveRow_13 rfl (lv_at hl 2 rfl) ?_
        refine lv_icmp_ge (tgt := 52) hx hb dX0_leaveRow_14 (by decide) (fun _ => ?_) (fun c => absurd (by decide +kernel) c)
        refine lv_aload_n hx hb dX0_leaveRow_52 rfl (lv_at hl 5 rfl) ?_
        refine lv_iconst (v := (-1)) hx hb dX0_leaveRow_53 (by decide +kernel) ?_
        refine k_putN X hW inG3 rfl tyX3_ok nmX3 3 (by decide) fln_X0_96 rfl rfl 8 rfl rfl rfl (Nat.le_of_ble_eq_true rfl) dX0_leaveRow_54 (w' := cardW k a (st2 (st2 (st2 u 6 (upd (u 6) 3 ((u 6 3) - (nI 1)))) 7 (upd (u 7) 3 (-1))) 8 (upd (u 8) 3 ((u 8 3) - (nI 1))))) rfl (fun H locs hW => ?_)
        exact hQ _ _ _ _ _ hW dX0_leaveRow_57 (by rw [m_X0_leaveRow_1_u, if_neg c_2, if_pos c_14, if_neg c_16])
    · refine lv_aload hx hb dX0_leaveRow_35 (lv_at hl 0 rfl) ?_
      refine lv_dup hx hb dX0_leaveRow_37 rfl ?_
      refine k_getN X hW inG3 rfl 3 (by decide) fln_X0_96 rfl 8 rfl (v := .int (u 7 3)) rfl dX0_leaveRow_38 ?_
      refine lv_iconst (v := nI 1) hx hb dX0_leaveRow_41 (by decide +kernel) ?_
      refine lv_isub hx hb dX0_leaveRow_42 ?_
      refine k_putN X hW inG3 rfl tyX3_ok nmX3 3 (by decide) fln_X0_96 rfl rfl 8 rfl rfl rfl (Nat.le_of_ble_eq_true rfl) dX0_leaveRow_43 (w' := cardW k a (st2 (st2 u 6 (upd (u 6) 3 ((u 6 3) - (nI 1)))) 7 (upd (u 7) 3 ((u 7 3) - (nI 1))))) rfl (fun H locs hW => ?_)
      refine lv_iinc (v := nI 2) (lv' := [(4, .int (nI 2)), (5, .ref (a 8)), (3, .int (nI 3)), (2, .ref (a 2)), (0, .ref (a 0)), (1, .ref (a 8))]) hx hb dX0_leaveRow_46 hl (k := 1) rfl (k_inc _) (by decide) rfl (fun ls hl => ?_)
      refine lv_goto (tgt := 11) hx hb dX0_leaveRow_49 (by decide) ?_
      refine lv_iload hx hb dX0_leaveRow_11 (lv_at hl 0 rfl) ?_
      refine lv_iload_n hx hb dX0_leaveRow_13 rfl (lv_at hl 2 rfl) ?_
      refine lv_icmp_ge (tgt := 52) hx hb dX0_leaveRow_14 (by decide) (fun c => absurd c (by decide +kernel)) (fun _ => ?_)
      refine lv_aload_n hx hb dX0_leaveRow_17 rfl (lv_at hl 3 rfl) ?_
      refine lv_iload hx hb dX0_leaveRow_18 (lv_at hl 0 rfl) ?_
      refine k_aald X hW 2 1 rfl rfl (j := 2) (b := a 9) rfl (by decide) (by decide) rfl dX0_leaveRow_20 ?_
      refine lv_astore (lv' := [(5, .ref (a 9)), (4, .int (nI 2)), (3, .int (nI 3)), (2, .ref (a 2)), (0, .ref (a 0)), (1, .ref (a 8))]) hx hb dX0_leaveRow_21 hl (by decide) rfl (fun ls hl => ?_)
      refine lv_aload hx hb dX0_leaveRow_23 (lv_at hl 0 rfl) ?_
      refine k_getN X hW inG3 rfl 3 (by decide) fln_X0_96 rfl 9 rfl (v := .int (u 8 3)) rfl dX0_leaveRow_25 ?_
      refine lv_aload_n hx hb dX0_leaveRow_28 rfl (lv_at hl 5 rfl) ?_
      refine k_getN X hW inG3 rfl 3 (by decide) fln_X0_96 rfl 8 rfl (v := .int ((u 7 3) - (nI 1))) rfl dX0_leaveRow_29 ?_
      refine lv_icmp_le (tgt := 46) hx hb dX0_leaveRow_32 (by decide) (fun c_20 => ?_) (fun c_20 => ?_)
      · refine lv_iinc (v := nI 3) (lv' := [(4, .int (nI 3)), (5, .ref (a 9)), (3, .int (nI 3)), (2, .ref (a 2)), (0, .ref (a 0)), (1, .ref (a 8))]) hx hb dX0_leaveRow_46 hl (k := 1) rfl (k_inc _) (by decide) rfl (fun ls hl => ?_)
        refine lv_goto (tgt := 11) hx hb dX0_leaveRow_49 (by decide) ?_
        refine lv_iload hx hb dX0_leaveRow_11 (lv_at hl 0 rfl) ?_
        refine lv_iload_n hx hb dX0_leaveRow_13 rfl (lv_at hl 2 rfl) ?_
        refine lv_icmp_ge (tgt := 52) hx hb dX0_leaveRow_14 (by decide) (fun _ => ?_) (fun c => absurd (by decide +kernel) c)
        refine lv_aload_n hx hb dX0_leaveRow_52 rfl (lv_at hl 5 rfl) ?_
        refine lv_iconst (v := (-1)) hx hb dX0_leaveRow_53 (by decide +kernel) ?_
        refine k_putN X hW inG3 rfl tyX3_ok nmX3 3 (by decide) fln_X0_96 rfl rfl 8 rfl rfl rfl (Nat.le_of_ble_eq_true rfl) dX0_leaveRow_54 (w' := cardW k a (st2 (st2 u 6 (upd (u 6) 3 ((u 6 3) - (nI 1)))) 7 (upd (u 7) 3 (-1)))) rfl (fun H locs hW => ?_)
        exact hQ _ _ _ _ _ hW dX0_leaveRow_57 (by rw [m_X0_leaveRow_1_u, if_neg c_2, if_neg c_14, if_pos c_20])
      · refine lv_aload hx hb dX0_leaveRow_35 (lv_at hl 0 rfl) ?_
        refine lv_dup hx hb dX0_leaveRow_37 rfl ?_
        refine k_getN X hW inG3 rfl 3 (by decide) fln_X0_96 rfl 9 rfl (v := .int (u 8 3)) rfl dX0_leaveRow_38 ?_
        refine lv_iconst (v := nI 1) hx hb dX0_leaveRow_41 (by decide +kernel) ?_
        refine lv_isub hx hb dX0_leaveRow_42 ?_
        refine k_putN X hW inG3 rfl tyX3_ok nmX3 3 (by decide) fln_X0_96 rfl rfl 9 rfl rfl rfl (Nat.le_of_ble_eq_true rfl) dX0_leaveRow_43 (w' := cardW k a (st2 (st2 (st2 u 6 (upd (u 6) 3 ((u 6 3) - (nI 1)))) 7 (upd (u 7) 3 ((u 7 3) - (nI 1)))) 8 (upd (u 8) 3 ((u 8 3) - (nI 1))))) rfl (fun H locs hW => ?_)
        refine lv_iinc (v := nI 3) (lv' := [(4, .int (nI 3)), (5, .ref (a 9)), (3, .int (nI 3)), (2, .ref (a 2)), (0, .ref (a 0)), (1, .ref (a 8))]) hx hb dX0_leaveRow_46 hl (k := 1) rfl (k_inc _) (by decide) rfl (fun ls hl => ?_)
        refine lv_goto (tgt := 11) hx hb dX0_leaveRow_49 (by decide) ?_
        refine lv_iload hx hb dX0_leaveRow_11 (lv_at hl 0 rfl) ?_
        refine lv_iload_n hx hb dX0_leaveRow_13 rfl (lv_at hl 2 rfl) ?_
        refine lv_icmp_ge (tgt := 52) hx hb dX0_leaveRow_14 (by decide) (fun _ => ?_) (fun c => absurd (by decide +kernel) c)
        refine lv_aload_n hx hb dX0_leaveRow_52 rfl (lv_at hl 5 rfl) ?_
        refine lv_iconst (v := (-1)) hx hb dX0_leaveRow_53 (by decide +kernel) ?_
        refine k_putN X hW inG3 rfl tyX3_ok nmX3 3 (by decide) fln_X0_96 rfl rfl 8 rfl rfl rfl (Nat.le_of_ble_eq_true rfl) dX0_leaveRow_54 (w' := cardW k a (st2 (st2 (st2 u 6 (upd (u 6) 3 ((u 6 3) - (nI 1)))) 7 (upd (u 7) 3 (-1))) 8 (upd (u 8) 3 ((u 8 3) - (nI 1))))) rfl (fun H locs hW => ?_)
        exact hQ _ _ _ _ _ hW dX0_leaveRow_57 (by rw [m_X0_leaveRow_1_u, if_neg c_2, if_neg c_14, if_neg c_20])
set_option maxHeartbeats 4000000 in
theorem CM_X0_leaveRow_1 {u : CS}  (h : CM u) : CM (m_X0_leaveRow_1_u u) := by
  rw [m_X0_leaveRow_1_u]
  split
  · split
    · split
      · exact (CM_stc h (by decide) (by decide))
      · exact (CM_stc (CM_stc h (by decide) (by decide)) (by decide) (by decide))
    · split
      · exact (CM_stc h (by decide) (by decide))
      · exact (CM_stc (CM_stc h (by decide) (by decide)) (by decide) (by decide))
  · split
    · split
      · exact (CM_stc (CM_stc h (by decide) (by decide)) (by decide) (by decide))
      · exact (CM_stc (CM_stc (CM_stc h (by decide) (by decide)) (by decide) (by decide)) (by decide) (by decide))
    · split
      · exact (CM_stc (CM_stc h (by decide) (by decide)) (by decide) (by decide))
      · exact (CM_stc (CM_stc (CM_stc h (by decide) (by decide)) (by decide) (by decide)) (by decide) (by decide))
def m_X0_leaveRow_2_u (u : CS) : CS := if u 6 3 ≤ u 8 3 then (if u 7 3 ≤ u 8 3 then (if u 8 3 ≤ u 8 3 then st2 u 8 (upd (u 8) 3 (-1)) else st2 u 8 (upd (u 8) 3 (-1))) else if u 8 3 ≤ u 8 3 then st2 (st2 u 7 (upd (u 7) 3 ((u 7 3) - (nI 1)))) 8 (upd (u 8) 3 (-1)) else st2 (st2 u 7 (upd (u 7) 3 ((u 7 3) - (nI 1)))) 8 (upd (u 8) 3 (-1))) else if u 7 3 ≤ u 8 3 then (if u 8 3 ≤ u 8 3 then st2 (st2 u 6 (upd (u 6) 3 ((u 6 3) - (nI 1)))) 8 (upd (u 8) 3 (-1)) else st2 (st2 u 6 (upd (u 6) 3 ((u 6 3) - (nI 1)))) 8 (upd (u 8) 3 (-1))) else if u 8 3 ≤ u 8 3 then st2 (st2 (st2 u 6 (upd (u 6) 3 ((u 6 3) - (nI 1)))) 7 (upd (u 7) 3 ((u 7 3) - (nI 1)))) 8 (upd (u 8) 3 (-1)) else st2 (st2 (st2 u 6 (upd (u 6) 3 ((u 6 3) - (nI 1)))) 7 (upd (u 7) 3 ((u 7 3) - (nI 1)))) 8 (upd (u 8) 3 (-1))
set_option maxHeartbeats 4000000 in
set_option maxRecDepth 100000 in
theorem c_X0_leaveRow_2 (l : Launch) (D : va_G) (k : Nat → ClassId) (a : Nat → Nat) (u : CS)   : mV l yX0_leaveRow (wsY yX0_leaveRow cX0_leaveRow 6 none) 0 D k [.ref (a 0), .ref (a 9)] (cardW k a u) (cardW k a (m_X0_leaveRow_2_u u)) := by
  refine mV_intro rfl (Nat.le_of_ble_eq_true rfl) ?_
  intro p e s m args below meth c A Q ls X hW hl hQ
  have hx := X.hx
  have hb := X.hb
  have hl : lv_has ls 6 [(0, .ref (a 0)), (1, .ref (a 9))] := hl
  refine lv_aload_n hx hb dX0_leaveRow_0 rfl (lv_at hl 0 rfl) ?_
  refine k_get X hW inG0 rfl 1 (by decide) fl_X0_20 rfl 0 rfl (v := .ref (a 2)) rfl dX0_leaveRow_1 ?_
  refine lv_astore_n (lv' := [(2, .ref (a 2)), (0, .ref (a 0)), (1, .ref (a 9))]) hx hb dX0_leaveRow_4 rfl hl (by decide) rfl (fun ls hl => ?_)
  refine lv_aload_n hx hb dX0_leaveRow_5 rfl (lv_at hl 0 rfl) ?_
  refine k_alen X hW 2 1 rfl rfl (v := nI 3) rfl dX0_leaveRow_6 ?_
  refine lv_istore_n (lv' := [(3, .int (nI 3)), (2, .ref (a 2)), (0, .ref (a 0)), (1, .ref (a 9))]) hx hb dX0_leaveRow_7 rfl hl (by decide) rfl (fun ls hl => ?_)
  refine lv_iconst (v := nI 0) hx hb dX0_leaveRow_8 (by decide +kernel) ?_
  refine lv_istore (lv' := [(4, .int (nI 0)), (3, .int (nI 3)), (2, .ref (a 2)), (0, .ref (a 0)), (1, .ref (a 9))]) hx hb dX0_leaveRow_9 hl (by decide) rfl (fun ls hl => ?_)
  refine lv_iload hx hb dX0_leaveRow_11 (lv_at hl 0 rfl) ?_
  refine lv_iload_n hx hb dX0_leaveRow_13 rfl (lv_at hl 1 rfl) ?_
  refine lv_icmp_ge (tgt := 52) hx hb dX0_leaveRow_14 (by decide) (fun c => absurd c (by decide +kernel)) (fun _ => ?_)
  refine lv_aload_n hx hb dX0_leaveRow_17 rfl (lv_at hl 2 rfl) ?_
  refine lv_iload hx hb dX0_leaveRow_18 (lv_at hl 0 rfl) ?_
  refine k_aald X hW 2 1 rfl rfl (j := 0) (b := a 7) rfl (by decide) (by decide) rfl dX0_leaveRow_20 ?_
  refine lv_astore (lv' := [(5, .ref (a 7)), (4, .int (nI 0)), (3, .int (nI 3)), (2, .ref (a 2)), (0, .ref (a 0)), (1, .ref (a 9))]) hx hb dX0_leaveRow_21 hl (by decide) rfl (fun ls hl => ?_)
  refine lv_aload hx hb dX0_leaveRow_23 (lv_at hl 0 rfl) ?_
  refine k_getN X hW inG3 rfl 3 (by decide) fln_X0_96 rfl 7 rfl (v := .int (u 6 3)) rfl dX0_leaveRow_25 ?_
  refine lv_aload_n hx hb dX0_leaveRow_28 rfl (lv_at hl 5 rfl) ?_
  refine k_getN X hW inG3 rfl 3 (by decide) fln_X0_96 rfl 9 rfl (v := .int (u 8 3)) rfl dX0_leaveRow_29 ?_
  refine lv_icmp_le (tgt := 46) hx hb dX0_leaveRow_32 (by decide) (fun c_2 => ?_) (fun c_2 => ?_)
  · refine lv_iinc (v := nI 1) (lv' := [(4, .int (nI 1)), (5, .ref (a 7)), (3, .int (nI 3)), (2, .ref (a 2)), (0, .ref (a 0)), (1, .ref (a 9))]) hx hb dX0_leaveRow_46 hl (k := 1) rfl (k_inc _) (by decide) rfl (fun ls hl => ?_)
    refine lv_goto (tgt := 11) hx hb dX0_leaveRow_49 (by decide) ?_
    refine lv_iload hx hb dX0_leaveRow_11 (lv_at hl 0 rfl) ?_
    refine lv_iload_n hx hb dX0_leaveRow_13 rfl (lv_at hl 2 rfl) ?_
    refine lv_icmp_ge (tgt := 52) hx hb dX0_leaveRow_14 (by decide) (fun c => absurd c (by decide +kernel)) (fun _ => ?_)
    refine lv_aload_n hx hb dX0_leaveRow_17 rfl (lv_at hl 3 rfl) ?_
    refine lv_iload hx hb dX0_leaveRow_18 (lv_at hl 0 rfl) ?_
    refine k_aald X hW 2 1 rfl rfl (j := 1) (b := a 8) rfl (by decide) (by decide) rfl dX0_leaveRow_20 ?_
    refine lv_astore (lv' := [(5, .ref (a 8)), (4, .int (nI 1)), (3, .int (nI 3)), (2, .ref (a 2)), (0, .ref (a 0)), (1, .ref (a 9))]) hx hb dX0_leaveRow_21 hl (by decide) rfl (fun ls hl => ?_)
    refine lv_aload hx hb dX0_leaveRow_23 (lv_at hl 0 rfl) ?_
    refine k_getN X hW inG3 rfl 3 (by decide) fln_X0_96 rfl 8 rfl (v := .int (u 7 3)) rfl dX0_leaveRow_25 ?_
    refine lv_aload_n hx hb dX0_leaveRow_28 rfl (lv_at hl 5 rfl) ?_
    refine k_getN X hW inG3 rfl 3 (by decide) fln_X0_96 rfl 9 rfl (v := .int (u 8 3)) rfl dX0_leaveRow_29 ?_
    refine lv_icmp_le (tgt := 46) hx hb dX0_leaveRow_32 (by decide) (fun c_4 => ?_) (fun c_4 => ?_)
    · refine lv_iinc (v := nI 2) (lv' := [(4, .int (nI 2)), (5, .ref (a 8)), (3, .int (nI 3)), (2, .ref (a 2)), (0, .ref (a 0)), (1, .ref (a 9))]) hx hb dX0_leaveRow_46 hl (k := 1) rfl (k_inc _) (by decide) rfl (fun ls hl => ?_)
      refine lv_goto (tgt := 11) hx hb dX0_leaveRow_49 (by decide) ?_
      refine lv_iload hx hb dX0_leaveRow_11 (lv_at hl 0 rfl) ?_
      refine lv_iload_n hx hb dX0_leaveRow_13 rfl (lv_at hl 2 rfl) ?_
      refine lv_icmp_ge (tgt := 52) hx hb dX0_leaveRow_14 (by decide) (fun c => absurd c (by decide +kernel)) (fun _ => ?_)
      refine lv_aload_n hx hb dX0_leaveRow_17 rfl (lv_at hl 3 rfl) ?_
      refine lv_iload hx hb dX0_leaveRow_18 (lv_at hl 0 rfl) ?_
      refine k_aald X hW 2 1 rfl rfl (j := 2) (b := a 9) rfl (by decide) (by decide) rfl dX0_leaveRow_20 ?_
      refine lv_astore (lv' := [(5, .ref (a 9)), (4, .int (nI 2)), (3, .int (nI 3)), (2, .ref (a 2)), (0, .ref (a 0)), (1, .ref (a 9))]) hx hb dX0_leaveRow_21 hl (by decide) rfl (fun ls hl => ?_)
      refine lv_aload hx hb dX0_leaveRow_23 (lv_at hl 0 rfl) ?_
      refine k_getN X hW inG3 rfl 3 (by decide) fln_X0_96 rfl 9 rfl (v := .int (u 8 3)) rfl dX0_leaveRow_25 ?_
      refine lv_aload_n hx hb dX0_leaveRow_28 rfl (lv_at hl 5 rfl) ?_
      refine k_getN X hW inG3 rfl 3 (by decide) fln_X0_96 rfl 9 rfl (v := .int (u 8 3)) rfl dX0_leaveRow_29 ?_
      refine lv_icmp_le (tgt := 46) hx hb dX0_leaveRow_32 (by decide) (fun c_6 => ?_) (fun c_6 => ?_)
      · refine lv_iinc (v := nI 3) (lv' := [(4, .int (nI 3)), (5, .ref (a 9)), (3, .int (nI 3)), (2, .ref (a 2)), (0, .ref (a 0)), (1, .ref (a 9))]) hx hb dX0_leaveRow_46 hl (k := 1) rfl (k_inc _) (by decide) rfl (fun ls hl => ?_)
        refine lv_goto (tgt := 11) hx hb dX0_leaveRow_49 (by decide) ?_
        refine lv_iload hx hb dX0_leaveRow_11 (lv_at hl 0 rfl) ?_
        refine lv_iload_n hx hb dX0_leaveRow_13 rfl (lv_at hl 2 rfl) ?_
        refine lv_icmp_ge (tgt := 52) hx hb dX0_leaveRow_14 (by decide) (fun _ => ?_) (fun c => absurd (by decide +kernel) c)
        refine lv_aload_n hx hb dX0_leaveRow_52 rfl (lv_at hl 5 rfl) ?_
        refine lv_iconst (v := (-1)) hx hb dX0_leaveRow_53 (by decide +kernel) ?_
        refine k_putN X hW inG3 rfl tyX3_ok nmX3 3 (by decide) fln_X0_96 rfl rfl 9 rfl rfl rfl (Nat.le_of_ble_eq_true rfl) dX0_leaveRow_54 (w' := cardW k a (st2 u 8 (upd (u 8) 3 (-1)))) rfl (fun H locs hW => ?_)
        exact hQ _ _ _ _ _ hW dX0_leaveRow_57 (by rw [m_X0_leaveRow_2_u, if_pos c_2, if_pos c_4, if_pos c_6])
      · refine lv_aload hx hb dX0_leaveRow_35 (lv_at hl 0 rfl) ?_
        refine lv_dup hx hb dX0_leaveRow_37 rfl ?_
        refine k_getN X hW inG3 rfl 3 (by decide) fln_X0_96 rfl 9 rfl (v := .int (u 8 3)) rfl dX0_leaveRow_38 ?_
        refine lv_iconst (v := nI 1) hx hb dX0_leaveRow_41 (by decide +kernel) ?_
        refine lv_isub hx hb dX0_leaveRow_42 ?_
        refine k_putN X hW inG3 rfl tyX3_ok nmX3 3 (by decide) fln_X0_96 rfl rfl 9 rfl rfl rfl (Nat.le_of_ble_eq_true rfl) dX0_leaveRow_43 (w' := cardW k a (st2 u 8 (upd (u 8) 3 ((u 8 3) - (nI 1))))) rfl (fun H locs hW => ?_)
        refine lv_iinc (v := nI 3) (lv' := [(4, .int (nI 3)), (5, .ref (a 9)), (3, .int (nI 3)), (2, .ref (a 2)), (0, .ref (a 0)), (1, .ref (a 9))]) hx hb dX0_leaveRow_46 hl (k := 1) rfl (k_inc _) (by decide) rfl (fun ls hl => ?_)
        refine lv_goto (tgt := 11) hx hb dX0_leaveRow_49 (by decide) ?_
        refine lv_iload hx hb dX0_leaveRow_11 (lv_at hl 0 rfl) ?_
        refine lv_iload_n hx hb dX0_leaveRow_13 rfl (lv_at hl 2 rfl) ?_
        refine lv_icmp_ge (tgt := 52) hx hb dX0_leaveRow_14 (by decide) (fun _ => ?_) (fun c => absurd (by decide +kernel) c)
        refine lv_aload_n hx hb dX0_leaveRow_52 rfl (lv_at hl 5 rfl) ?_
        refine lv_iconst (v := (-1)) hx hb dX0_leaveRow_53 (by decide +kernel) ?_
        refine k_putN X hW inG3 rfl tyX3_ok nmX3 3 (by decide) fln_X0_96 rfl rfl 9 rfl rfl rfl (Nat.le_of_ble_eq_true rfl) dX0_leaveRow_54 (w' := cardW k a (st2 u 8 (upd (u 8) 3 (-1)))) rfl (fun H locs hW => ?_)
        exact hQ _ _ _ _ _ hW dX0_leaveRow_57 (by rw [m_X0_leaveRow_2_u, if_pos c_2, if_pos c_4, if_neg c_6])
    · refine lv_aload hx hb dX0_leaveRow_35 (lv_at hl 0 rfl) ?_
      refine lv_dup hx hb dX0_leaveRow_37 rfl ?_
      refine k_getN X hW inG3 rfl 3 (by decide) fln_X0_96 rfl 8 rfl (v := .int (u 7 3)) rfl dX0_leaveRow_38 ?_
      refine lv_iconst (v := nI 1) hx hb dX0_leaveRow_41 (by decide +kernel) ?_
      refine lv_isub hx hb dX0_leaveRow_42 ?_
      refine k_putN X hW inG3 rfl tyX3_ok nmX3 3 (by decide) fln_X0_96 rfl rfl 8 rfl rfl rfl (Nat.le_of_ble_eq_true rfl) dX0_leaveRow_43 (w' := cardW k a (st2 u 7 (upd (u 7) 3 ((u 7 3) - (nI 1))))) rfl (fun H locs hW => ?_)
      refine lv_iinc (v := nI 2) (lv' := [(4, .int (nI 2)), (5, .ref (a 8)), (3, .int (nI 3)), (2, .ref (a 2)), (0, .ref (a 0)), (1, .ref (a 9))]) hx hb dX0_leaveRow_46 hl (k := 1) rfl (k_inc _) (by decide) rfl (fun ls hl => ?_)
      refine lv_goto (tgt := 11) hx hb dX0_leaveRow_49 (by decide) ?_
      refine lv_iload hx hb dX0_leaveRow_11 (lv_at hl 0 rfl) ?_
      refine lv_iload_n hx hb dX0_leaveRow_13 rfl (lv_at hl 2 rfl) ?_
      refine lv_icmp_ge (tgt := 52) hx hb dX0_leaveRow_14 (by decide) (fun c => absurd c (by decide +kernel)) (fun _ => ?_)
      refine lv_aload_n hx hb dX0_leaveRow_17 rfl (lv_at hl 3 rfl) ?_
      refine lv_iload hx hb dX0_leaveRow_18 (lv_at hl 0 rfl) ?_
      refine k_aald X hW 2 1 rfl rfl (j := 2) (b := a 9) rfl (by decide) (by decide) rfl dX0_leaveRow_20 ?_
      refine lv_astore (lv' := [(5, .ref (a 9)), (4, .int (nI 2)), (3, .int (nI 3)), (2, .ref (a 2)), (0, .ref (a 0)), (1, .ref (a 9))]) hx hb dX0_leaveRow_21 hl (by decide) rfl (fun ls hl => ?_)
      refine lv_aload hx hb dX0_leaveRow_23 (lv_at hl 0 rfl) ?_
      refine k_getN X hW inG3 rfl 3 (by decide) fln_X0_96 rfl 9 rfl (v := .int (u 8 3)) rfl dX0_leaveRow_25 ?_
      refine lv_aload_n hx hb dX0_leaveRow_28 rfl (lv_at hl 5 rfl) ?_
      refine k_getN X hW inG3 rfl 3 (by decide) fln_X0_96 rfl 9 rfl (v := .int (u 8 3)) rfl dX0_leaveRow_29 ?_
      refine lv_icmp_le (tgt := 46) hx hb dX0_leaveRow_32 (by decide) (fun c_10 => ?_) (fun c_10 => ?_)
      · refine lv_iinc (v := nI 3) (lv' := [(4, .int (nI 3)), (5, .ref (a 9)), (3, .int (nI 3)), (2, .ref (a 2)), (0, .ref (a 0)), (1, .ref (a 9))]) hx hb dX0_leaveRow_46 hl (k := 1) rfl (k_inc _) (by decide) rfl (fun ls hl => ?_)
        refine lv_goto (tgt := 11) hx hb dX0_leaveRow_49 (by decide) ?_
        refine lv_iload hx hb dX0_leaveRow_11 (lv_at hl 0 rfl) ?_
        refine lv_iload_n hx hb dX0_leaveRow_13 rfl (lv_at hl 2 rfl) ?_
        refine lv_icmp_ge (tgt := 52) hx hb dX0_leaveRow_14 (by decide) (fun _ => ?_) (fun c => absurd (by decide +kernel) c)
        refine lv_aload_n hx hb dX0_leaveRow_52 rfl (lv_at hl 5 rfl) ?_
        refine lv_iconst (v := (-1)) hx hb dX0_leaveRow_53 (by decide +kernel) ?_
        refine k_putN X hW inG3 rfl tyX3_ok nmX3 3 (by decide) fln_X0_96 rfl rfl 9 rfl rfl rfl (Nat.le_of_ble_eq_true rfl) dX0_leaveRow_54 (w' := cardW k a (st2 (st2 u 7 (upd (u 7) 3 ((u 7 3) - (nI 1)))) 8 (upd (u 8) 3 (-1)))) rfl (fun H locs hW => ?_)
        exact hQ _ _ _ _ _ hW dX0_leaveRow_57 (by rw [m_X0_leaveRow_2_u, if_pos c_2, if_neg c_4, if_pos c_10])
      · refine lv_aload hx hb dX0_leaveRow_35 (lv_at hl 0 rfl) ?_
        refine lv_dup hx hb dX0_leaveRow_37 rfl ?_
        refine k_getN X hW inG3 rfl 3 (by decide) fln_X0_96 rfl 9 rfl (v := .int (u 8 3)) rfl dX0_leaveRow_38 ?_
        refine lv_iconst (v := nI 1) hx hb dX0_leaveRow_41 (by decide +kernel) ?_
        refine lv_isub hx hb dX0_leaveRow_42 ?_
        refine k_putN X hW inG3 rfl tyX3_ok nmX3 3 (by decide) fln_X0_96 rfl rfl 9 rfl rfl rfl (Nat.le_of_ble_eq_true rfl) dX0_leaveRow_43 (w' := cardW k a (st2 (st2 u 7 (upd (u 7) 3 ((u 7 3) - (nI 1)))) 8 (upd (u 8) 3 ((u 8 3) - (nI 1))))) rfl (fun H locs hW => ?_)
        refine lv_iinc (v := nI 3) (lv' := [(4, .int (nI 3)), (5, .ref (a 9)), (3, .int (nI 3)), (2, .ref (a 2)), (0, .ref (a 0)), (1, .ref (a 9))]) hx hb dX0_leaveRow_46 hl (k := 1) rfl (k_inc _) (by decide) rfl (fun ls hl => ?_)
        refine lv_goto (tgt := 11) hx hb dX0_leaveRow_49 (by decide) ?_
        refine lv_iload hx hb dX0_leaveRow_11 (lv_at hl 0 rfl) ?_
        refine lv_iload_n hx hb dX0_leaveRow_13 rfl (lv_at hl 2 rfl) ?_
        refine lv_icmp_ge (tgt := 52) hx hb dX0_leaveRow_14 (by decide) (fun _ => ?_) (fun c => absurd (by decide +kernel) c)
        refine lv_aload_n hx hb dX0_leaveRow_52 rfl (lv_at hl 5 rfl) ?_
        refine lv_iconst (v := (-1)) hx hb dX0_leaveRow_53 (by decide +kernel) ?_
        refine k_putN X hW inG3 rfl tyX3_ok nmX3 3 (by decide) fln_X0_96 rfl rfl 9 rfl rfl rfl (Nat.le_of_ble_eq_true rfl) dX0_leaveRow_54 (w' := cardW k a (st2 (st2 u 7 (upd (u 7) 3 ((u 7 3) - (nI 1)))) 8 (upd (u 8) 3 (-1)))) rfl (fun H locs hW => ?_)
        exact hQ _ _ _ _ _ hW dX0_leaveRow_57 (by rw [m_X0_leaveRow_2_u, if_pos c_2, if_neg c_4, if_neg c_10])
  · refine lv_aload hx hb dX0_leaveRow_35 (lv_at hl 0 rfl) ?_
    refine lv_dup hx hb dX0_leaveRow_37 rfl ?_
    refine k_getN X hW inG3 rfl 3 (by decide) fln_X0_96 rfl 7 rfl (v := .int (u 6 3)) rfl dX0_leaveRow_38 ?_
    refine lv_iconst (v := nI 1) hx hb dX0_leaveRow_41 (by decide +kernel) ?_
    refine lv_isub hx hb dX0_leaveRow_42 ?_
    refine k_putN X hW inG3 rfl tyX3_ok nmX3 3 (by decide) fln_X0_96 rfl rfl 7 rfl rfl rfl (Nat.le_of_ble_eq_true rfl) dX0_leaveRow_43 (w' := cardW k a (st2 u 6 (upd (u 6) 3 ((u 6 3) - (nI 1))))) rfl (fun H locs hW => ?_)
    refine lv_iinc (v := nI 1) (lv' := [(4, .int (nI 1)), (5, .ref (a 7)), (3, .int (nI 3)), (2, .ref (a 2)), (0, .ref (a 0)), (1, .ref (a 9))]) hx hb dX0_leaveRow_46 hl (k := 1) rfl (k_inc _) (by decide) rfl (fun ls hl => ?_)
    refine lv_goto (tgt := 11) hx hb dX0_leaveRow_49 (by decide) ?_
    refine lv_iload hx hb dX0_leaveRow_11 (lv_at hl 0 rfl) ?_
    refine lv_iload_n hx hb dX0_leaveRow_13 rfl (lv_at hl 2 rfl) ?_
    refine lv_icmp_ge (tgt := 52) hx hb dX0_leaveRow_14 (by decide) (fun c => absurd c (by decide +kernel)) (fun _ => ?_)
    refine lv_aload_n hx hb dX0_leaveRow_17 rfl (lv_at hl 3 rfl) ?_
    refine lv_iload hx hb dX0_leaveRow_18 (lv_at hl 0 rfl) ?_
    refine k_aald X hW 2 1 rfl rfl (j := 1) (b := a 8) rfl (by decide) (by decide) rfl dX0_leaveRow_20 ?_
    refine lv_astore (lv' := [(5, .ref (a 8)), (4, .int (nI 1)), (3, .int (nI 3)), (2, .ref (a 2)), (0, .ref (a 0)), (1, .ref (a 9))]) hx hb dX0_leaveRow_21 hl (by decide) rfl (fun ls hl => ?_)
    refine lv_aload hx hb dX0_leaveRow_23 (lv_at hl 0 rfl) ?_
    refine k_getN X hW inG3 rfl 3 (by decide) fln_X0_96 rfl 8 rfl (v := .int (u 7 3)) rfl dX0_leaveRow_25 ?_
    refine lv_aload_n hx hb dX0_leaveRow_28 rfl (lv_at hl 5 rfl) ?_
    refine k_getN X hW inG3 rfl 3 (by decide) fln_X0_96 rfl 9 rfl (v := .int (u 8 3)) rfl dX0_leaveRow_29 ?_
    refine lv_icmp_le (tgt := 46) hx hb dX0_leaveRow_32 (by decide) (fun c_14 => ?_) (fun c_14 => ?_)
    · refine lv_iinc (v := nI 2) (lv' := [(4, .int (nI 2)), (5, .ref (a 8)), (3, .int (nI 3)), (2, .ref (a 2)), (0, .ref (a 0)), (1, .ref (a 9))]) hx hb dX0_leaveRow_46 hl (k := 1) rfl (k_inc _) (by decide) rfl (fun ls hl => ?_)
      refine lv_goto (tgt := 11) hx hb dX0_leaveRow_49 (by decide) ?_
      refine lv_iload hx hb dX0_leaveRow_11 (lv_at hl 0 rfl) ?_
      refine lv_iload_n hx hb dX0_leaveRow_13 rfl (lv_at hl 2 rfl) ?_
      refine lv_icmp_ge (tgt := 52) hx hb dX0_leaveRow_14 (by decide) (fun c => absurd c (by decide +kernel)) (fun _ => ?_)
      refine lv_aload_n hx hb dX0_leaveRow_17 rfl (lv_at hl 3 rfl) ?_
      refine lv_iload hx hb dX0_leaveRow_18 (lv_at hl 0 rfl) ?_
      refine k_aald X hW 2 1 rfl rfl (j := 2) (b := a 9) rfl (by decide) (by decide) rfl dX0_leaveRow_20 ?_
      refine lv_astore (lv' := [(5, .ref (a 9)), (4, .int (nI 2)), (3, .int (nI 3)), (2, .ref (a 2)), (0, .ref (a 0)), (1, .ref (a 9))]) hx hb dX0_leaveRow_21 hl (by decide) rfl (fun ls hl => ?_)
      refine lv_aload hx hb dX0_leaveRow_23 (lv_at hl 0 rfl) ?_
      refine k_getN X hW inG3 rfl 3 (by decide) fln_X0_96 rfl 9 rfl (v := .int (u 8 3)) rfl dX0_leaveRow_25 ?_
      refine lv_aload_n hx hb dX0_leaveRow_28 rfl (lv_at hl 5 rfl) ?_
      refine k_getN X hW inG3 rfl 3 (by decide) fln_X0_96 rfl 9 rfl (v := .int (u 8 3)) rfl dX0_leaveRow_29 ?_
      refine lv_icmp_le (tgt := 46) hx hb dX0_leaveRow_32 (by decide) (fun c_16 => ?_) (fun c_16 => ?_)
      · refine lv_iinc (v := nI 3) (lv' := [(4, .int (nI 3)), (5, .ref (a 9)), (3, .int (nI 3)), (2, .ref (a 2)), (0, .ref (a 0)), (1, .ref (a 9))]) hx hb dX0_leaveRow_46 hl (k := 1) rfl (k_inc _) (by decide) rfl (fun ls hl => ?_)
        refine lv_goto (tgt := 11) hx hb dX0_leaveRow_49 (by decide) ?_
        refine lv_iload hx hb dX0_leaveRow_11 (lv_at hl 0 rfl) ?_
        refine lv_iload_n hx hb dX0_leaveRow_13 rfl (lv_at hl 2 rfl) ?_
        refine lv_icmp_ge (tgt := 52) hx hb dX0_leaveRow_14 (by decide) (fun _ => ?_) (fun c => absurd (by decide +kernel) c)
        refine lv_aload_n hx hb dX0_leaveRow_52 rfl (lv_at hl 5 rfl) ?_
        refine lv_iconst (v := (-1)) hx hb dX0_leaveRow_53 (by decide +kernel) ?_
        refine k_putN X hW inG3 rfl tyX3_ok nmX3 3 (by decide) fln_X0_96 rfl rfl 9 rfl rfl rfl (Nat.le_of_ble_eq_true rfl) dX0_leaveRow_54 (w' := cardW k a (st2 (st2 u 6 (upd (u 6) 3 ((u 6 3) - (nI 1)))) 8 (upd (u 8) 3 (-1)))) rfl (fun H locs hW => ?_)
        exact hQ _ _ _ _ _ hW dX0_leaveRow_57 (by rw [m_X0_leaveRow_2_u, if_neg c_2, if_pos c_14, if_pos c_16])
      · refine lv_aload hx hb dX0_leaveRow_35 (lv_at hl 0 rfl) ?_
        refine lv_dup hx hb dX0_leaveRow_37 rfl ?_
        refine k_getN X hW inG3 rfl 3 (by decide) fln_X0_96 rfl 9 rfl (v := .int (u 8 3)) rfl dX0_leaveRow_38 ?_
        refine lv_iconst (v := nI 1) hx hb dX0_leaveRow_41 (by decide +kernel) ?_
        refine lv_isub hx hb dX0_leaveRow_42 ?_
        refine k_putN X hW inG3 rfl tyX3_ok nmX3 3 (by decide) fln_X0_96 rfl rfl 9 rfl rfl rfl (Nat.le_of_ble_eq_true rfl) dX0_leaveRow_43 (w' := cardW k a (st2 (st2 u 6 (upd (u 6) 3 ((u 6 3) - (nI 1)))) 8 (upd (u 8) 3 ((u 8 3) - (nI 1))))) rfl (fun H locs hW => ?_)
        refine lv_iinc (v := nI 3) (lv' := [(4, .int (nI 3)), (5, .ref (a 9)), (3, .int (nI 3)), (2, .ref (a 2)), (0, .ref (a 0)), (1, .ref (a 9))]) hx hb dX0_leaveRow_46 hl (k := 1) rfl (k_inc _) (by decide) rfl (fun ls hl => ?_)
        refine lv_goto (tgt := 11) hx hb dX0_leaveRow_49 (by decide) ?_
        refine lv_iload hx hb dX0_leaveRow_11 (lv_at hl 0 rfl) ?_
        refine lv_iload_n hx hb dX0_leaveRow_13 rfl (lv_at hl 2 rfl) ?_
        refine lv_icmp_ge (tgt := 52) hx hb dX0_leaveRow_14 (by decide) (fun _ => ?_) (fun c => absurd (by decide +kernel) c)
        refine lv_aload_n hx hb dX0_leaveRow_52 rfl (lv_at hl 5 rfl) ?_
        refine lv_iconst (v := (-1)) hx hb dX0_leaveRow_53 (by decide +kernel) ?_
        refine k_putN X hW inG3 rfl tyX3_ok nmX3 3 (by decide) fln_X0_96 rfl rfl 9 rfl rfl rfl (Nat.le_of_ble_eq_true rfl) dX0_leaveRow_54 (w' := cardW k a (st2 (st2 u 6 (upd (u 6) 3 ((u 6 3) - (nI 1)))) 8 (upd (u 8) 3 (-1)))) rfl (fun H locs hW => ?_)
        exact hQ _ _ _ _ _ hW dX0_leaveRow_57 (by rw [m_X0_leaveRow_2_u, if_neg c_2, if_pos c_14, if_neg c_16])
    · refine lv_aload hx hb dX0_leaveRow_35 (lv_at hl 0 rfl) ?_
      refine lv_dup hx hb dX0_leaveRow_37 rfl ?_
      refine k_getN X hW inG3 rfl 3 (by decide) fln_X0_96 rfl 8 rfl (v := .int (u 7 3)) rfl dX0_leaveRow_38 ?_
      refine lv_iconst (v := nI 1) hx hb dX0_leaveRow_41 (by decide +kernel) ?_
      refine lv_isub hx hb dX0_leaveRow_42 ?_
      refine k_putN X hW inG3 rfl tyX3_ok nmX3 3 (by decide) fln_X0_96 rfl rfl 8 rfl rfl rfl (Nat.le_of_ble_eq_true rfl) dX0_leaveRow_43 (w' := cardW k a (st2 (st2 u 6 (upd (u 6) 3 ((u 6 3) - (nI 1)))) 7 (upd (u 7) 3 ((u 7 3) - (nI 1))))) rfl (fun H locs hW => ?_)
      refine lv_iinc (v := nI 2) (lv' := [(4, .int (nI 2)), (5, .ref (a 8)), (3, .int (nI 3)), (2, .ref (a 2)), (0, .ref (a 0)), (1, .ref (a 9))]) hx hb dX0_leaveRow_46 hl (k := 1) rfl (k_inc _) (by decide) rfl (fun ls hl => ?_)
      refine lv_goto (tgt := 11) hx hb dX0_leaveRow_49 (by decide) ?_
      refine lv_iload hx hb dX0_leaveRow_11 (lv_at hl 0 rfl) ?_
      refine lv_iload_n hx hb dX0_leaveRow_13 rfl (lv_at hl 2 rfl) ?_
      refine lv_icmp_ge (tgt := 52) hx hb dX0_leaveRow_14 (by decide) (fun c => absurd c (by decide +kernel)) (fun _ => ?_)
      refine lv_aload_n hx hb dX0_leaveRow_17 rfl (lv_at hl 3 rfl) ?_
      refine lv_iload hx hb dX0_leaveRow_18 (lv_at hl 0 rfl) ?_
      refine k_aald X hW 2 1 rfl rfl (j := 2) (b := a 9) rfl (by decide) (by decide) rfl dX0_leaveRow_20 ?_
      refine lv_astore (lv' := [(5, .ref (a 9)), (4, .int (nI 2)), (3, .int (nI 3)), (2, .ref (a 2)), (0, .ref (a 0)), (1, .ref (a 9))]) hx hb dX0_leaveRow_21 hl (by decide) rfl (fun ls hl => ?_)
      refine lv_aload hx hb dX0_leaveRow_23 (lv_at hl 0 rfl) ?_
      refine k_getN X hW inG3 rfl 3 (by decide) fln_X0_96 rfl 9 rfl (v := .int (u 8 3)) rfl dX0_leaveRow_25 ?_
      refine lv_aload_n hx hb dX0_leaveRow_28 rfl (lv_at hl 5 rfl) ?_
      refine k_getN X hW inG3 rfl 3 (by decide) fln_X0_96 rfl 9 rfl (v := .int (u 8 3)) rfl dX0_leaveRow_29 ?_
      refine lv_icmp_le (tgt := 46) hx hb dX0_leaveRow_32 (by decide) (fun c_20 => ?_) (fun c_20 => ?_)
      · refine lv_iinc (v := nI 3) (lv' := [(4, .int (nI 3)), (5, .ref (a 9)), (3, .int (nI 3)), (2, .ref (a 2)), (0, .ref (a 0)), (1, .ref (a 9))]) hx hb dX0_leaveRow_46 hl (k := 1) rfl (k_inc _) (by decide) rfl (fun ls hl => ?_)
        refine lv_goto (tgt := 11) hx hb dX0_leaveRow_49 (by decide) ?_
        refine lv_iload hx hb dX0_leaveRow_11 (lv_at hl 0 rfl) ?_
        refine lv_iload_n hx hb dX0_leaveRow_13 rfl (lv_at hl 2 rfl) ?_
        refine lv_icmp_ge (tgt := 52) hx hb dX0_leaveRow_14 (by decide) (fun _ => ?_) (fun c => absurd (by decide +kernel) c)
        refine lv_aload_n hx hb dX0_leaveRow_52 rfl (lv_at hl 5 rfl) ?_
        refine lv_iconst (v := (-1)) hx hb dX0_leaveRow_53 (by decide +kernel) ?_
        refine k_putN X hW inG3 rfl tyX3_ok nmX3 3 (by decide) fln_X0_96 rfl rfl 9 rfl rfl rfl (Nat.le_of_ble_eq_true rfl) dX0_leaveRow_54 (w' := cardW k a (st2 (st2 (st2 u 6 (upd (u 6) 3 ((u 6 3) - (nI 1)))) 7 (upd (u 7) 3 ((u 7 3) - (nI 1)))) 8 (upd (u 8) 3 (-1)))) rfl (fun H locs hW => ?_)
        exact hQ _ _ _ _ _ hW dX0_leaveRow_57 (by rw [m_X0_leaveRow_2_u, if_neg c_2, if_neg c_14, if_pos c_20])
      · refine lv_aload hx hb dX0_leaveRow_35 (lv_at hl 0 rfl) ?_
        refine lv_dup hx hb dX0_leaveRow_37 rfl ?_
        refine k_getN X hW inG3 rfl 3 (by decide) fln_X0_96 rfl 9 rfl (v := .int (u 8 3)) rfl dX0_leaveRow_38 ?_
        refine lv_iconst (v := nI 1) hx hb dX0_leaveRow_41 (by decide +kernel) ?_
        refine lv_isub hx hb dX0_leaveRow_42 ?_
        refine k_putN X hW inG3 rfl tyX3_ok nmX3 3 (by decide) fln_X0_96 rfl rfl 9 rfl rfl rfl (Nat.le_of_ble_eq_true rfl) dX0_leaveRow_43 (w' := cardW k a (st2 (st2 (st2 u 6 (upd (u 6) 3 ((u 6 3) - (nI 1)))) 7 (upd (u 7) 3 ((u 7 3) - (nI 1)))) 8 (upd (u 8) 3 ((u 8 3) - (nI 1))))) rfl (fun H locs hW => ?_)
        refine lv_iinc (v := nI 3) (lv' := [(4, .int (nI 3)), (5, .ref (a 9)), (3, .int (nI 3)), (2, .ref (a 2)), (0, .ref (a 0)), (1, .ref (a 9))]) hx hb dX0_leaveRow_46 hl (k := 1) rfl (k_inc _) (by decide) rfl (fun ls hl => ?_)
        refine lv_goto (tgt := 11) hx hb dX0_leaveRow_49 (by decide) ?_
        refine lv_iload hx hb dX0_leaveRow_11 (lv_at hl 0 rfl) ?_
        refine lv_iload_n hx hb dX0_leaveRow_13 rfl (lv_at hl 2 rfl) ?_
        refine lv_icmp_ge (tgt := 52) hx hb dX0_leaveRow_14 (by decide) (fun _ => ?_) (fun c => absurd (by decide +kernel) c)
        refine lv_aload_n hx hb dX0_leaveRow_52 rfl (lv_at hl 5 rfl) ?_
        refine lv_iconst (v := (-1)) hx hb dX0_leaveRow_53 (by decide +kernel) ?_
        refine k_putN X hW inG3 rfl tyX3_ok nmX3 3 (by decide) fln_X0_96 rfl rfl 9 rfl rfl rfl (Nat.le_of_ble_eq_true rfl) dX0_leaveRow_54 (w' := cardW k a (st2 (st2 (st2 u 6 (upd (u 6) 3 ((u 6 3) - (nI 1)))) 7 (upd (u 7) 3 ((u 7 3) - (nI 1)))) 8 (upd (u 8) 3 (-1)))) rfl (fun H locs hW => ?_)
        exact hQ _ _ _ _ _ hW dX0_leaveRow_57 (by rw [m_X0_leaveRow_2_u, if_neg c_2, if_neg c_14, if_neg c_20])
set_option maxHeartbeats 4000000 in
theorem CM_X0_leaveRow_2 {u : CS}  (h : CM u) : CM (m_X0_leaveRow_2_u u) := by
  rw [m_X0_leaveRow_2_u]
  split
  · split
    · split
      · exact (CM_stc h (by decide) (by decide))
      · exact (CM_stc h (by decide) (by decide))
    · split
      · exact (CM_stc (CM_stc h (by decide) (by decide)) (by decide) (by decide))
      · exact (CM_stc (CM_stc h (by decide) (by decide)) (by decide) (by decide))
  · split
    · split
      · exact (CM_stc (CM_stc h (by decide) (by decide)) (by decide) (by decide))
      · exact (CM_stc (CM_stc h (by decide) (by decide)) (by decide) (by decide))
    · split
      · exact (CM_stc (CM_stc (CM_stc h (by decide) (by decide)) (by decide) (by decide)) (by decide) (by decide))
      · exact (CM_stc (CM_stc (CM_stc h (by decide) (by decide)) (by decide) (by decide)) (by decide) (by decide))
def m_X0_queueAt_r (u : CS) (x : Int32) : Int32 := if (m_X3_isCalled_r (u 6)) = 0 then (if (m_X3_isCalled_r (u 7)) = 0 then (if (m_X3_isCalled_r (u 8)) = 0 then (-1) else if u 8 3 = x then nI 2 else (-1)) else if u 7 3 = x then nI 1 else if (m_X3_isCalled_r (u 8)) = 0 then (-1) else if u 8 3 = x then nI 2 else (-1)) else if u 6 3 = x then nI 0 else if (m_X3_isCalled_r (u 7)) = 0 then (if (m_X3_isCalled_r (u 8)) = 0 then (-1) else if u 8 3 = x then nI 2 else (-1)) else if u 7 3 = x then nI 1 else if (m_X3_isCalled_r (u 8)) = 0 then (-1) else if u 8 3 = x then nI 2 else (-1)
set_option maxHeartbeats 4000000 in
set_option maxRecDepth 100000 in
theorem c_X0_queueAt (l : Launch) (D : va_G) (k : Nat → ClassId) (a : Nat → Nat) (u : CS) (x : Int32)  : mI l yX0_queueAt (wsY yX0_queueAt cX0_queueAt 3 (some .int)) 1 D k [.ref (a 0), .int x] (cardW k a u) (cardW k a u) (m_X0_queueAt_r u x) := by
  refine mI_intro rfl (Nat.le_of_ble_eq_true rfl) (Or.inl rfl) ?_
  intro p e s m args below meth c A Q ls X hW hl hQ
  have hx := X.hx
  have hb := X.hb
  have hl : lv_has ls 3 [(0, .ref (a 0)), (1, .int x)] := hl
  refine lv_iconst (v := nI 0) hx hb dX0_queueAt_0 (by decide +kernel) ?_
  refine lv_istore_n (lv' := [(2, .int (nI 0)), (0, .ref (a 0)), (1, .int x)]) hx hb dX0_queueAt_1 rfl hl (by decide) rfl (fun ls hl => ?_)
  refine lv_iload_n hx hb dX0_queueAt_2 rfl (lv_at hl 0 rfl) ?_
  refine lv_iconst (v := nI 3) hx hb dX0_queueAt_3 (by decide +kernel) ?_
  refine lv_icmp_ge (tgt := 40) hx hb dX0_queueAt_4 (by decide) (fun c => absurd c (by decide +kernel)) (fun _ => ?_)
  refine lv_aload_n hx hb dX0_queueAt_7 rfl (lv_at hl 1 rfl) ?_
  refine k_get X hW inG0 rfl 1 (by decide) fl_X0_20 rfl 0 rfl (v := .ref (a 2)) rfl dX0_queueAt_8 ?_
  refine lv_iload_n hx hb dX0_queueAt_11 rfl (lv_at hl 0 rfl) ?_
  refine k_aald X hW 2 1 rfl rfl (j := 0) (b := a 7) rfl (by decide) (by decide) rfl dX0_queueAt_12 ?_
  obtain ⟨z_2, hz_2⟩ : ∃ z, m_X3_isCalled_r (u 6) = z := ⟨_, rfl⟩
  have hM_3 := (c_X3_isCalled l D k (a 7) (u 6) )
  rw [hz_2] at hM_3
  refine kNi (As := []) (rest := []) X hW hM_3 yw_X3_isCalled lkn_X0_89 ⟨Nat.le_of_ble_eq_true rfl, Nat.le_of_ble_eq_true rfl⟩ (wr := [cO a u, cSe k a u, cQs k a, cFl k a u, cCa k a u, cHo k a u, cTa k a u, qC (a 8) (u 7), qC (a 9) (u 8)]) (w_idx (n := 10) [0, 1, 2, 3, 4, 5, 6, 8, 9, 7] rfl (by decide) rfl) (w' := cardW k a u) (w_idx (n := 10) [0, 1, 2, 3, 4, 5, 6, 9, 7, 8] rfl (by decide) rfl) (k_rcv X hW (ci := 3) (q0 := 7) rfl rfl) rfl hl.1 rfl (Nat.le_of_ble_eq_true rfl) ⟨Nat.zero_le _, Nat.zero_le _⟩ dX0_queueAt_13 (fun H locs hW => ?_)
  refine lv_if_eq (tgt := 34) hx hb dX0_queueAt_16 (by decide) (fun c_4 => ?_) (fun c_4 => ?_)
  · refine lv_iinc (v := nI 1) (lv' := [(2, .int (nI 1)), (0, .ref (a 0)), (1, .int x)]) hx hb dX0_queueAt_34 hl (k := 0) rfl (k_inc _) (by decide) rfl (fun ls hl => ?_)
    refine lv_goto (tgt := 2) hx hb dX0_queueAt_37 (by decide) ?_
    refine lv_iload_n hx hb dX0_queueAt_2 rfl (lv_at hl 0 rfl) ?_
    refine lv_iconst (v := nI 3) hx hb dX0_queueAt_3 (by decide +kernel) ?_
    refine lv_icmp_ge (tgt := 40) hx hb dX0_queueAt_4 (by decide) (fun c => absurd c (by decide +kernel)) (fun _ => ?_)
    refine lv_aload_n hx hb dX0_queueAt_7 rfl (lv_at hl 1 rfl) ?_
    refine k_get X hW inG0 rfl 1 (by decide) fl_X0_20 rfl 0 rfl (v := .ref (a 2)) rfl dX0_queueAt_8 ?_
    refine lv_iload_n hx hb dX0_queueAt_11 rfl (lv_at hl 0 rfl) ?_
    refine k_aald X hW 2 1 rfl rfl (j := 1) (b := a 8) rfl (by decide) (by decide) rfl dX0_queueAt_12 ?_
    obtain ⟨z_6, hz_6⟩ : ∃ z, m_X3_isCalled_r (u 7) = z := ⟨_, rfl⟩
    have hM_7 := (c_X3_isCalled l D k (a 8) (u 7) )
    rw [hz_6] at hM_7
    refine kNi (As := []) (rest := []) X hW hM_7 yw_X3_isCalled lkn_X0_89 ⟨Nat.le_of_ble_eq_true rfl, Nat.le_of_ble_eq_true rfl⟩ (wr := [cO a u, cSe k a u, cQs k a, cFl k a u, cCa k a u, cHo k a u, cTa k a u, qC (a 7) (u 6), qC (a 9) (u 8)]) (w_idx (n := 10) [0, 1, 2, 3, 4, 5, 6, 7, 9, 8] rfl (by decide) rfl) (w' := cardW k a u) (w_idx (n := 10) [0, 1, 2, 3, 4, 5, 6, 7, 9, 8] rfl (by decide) rfl) (k_rcv X hW (ci := 3) (q0 := 8) rfl rfl) rfl hl.1 rfl (Nat.le_of_ble_eq_true rfl) ⟨Nat.zero_le _, Nat.zero_le _⟩ dX0_queueAt_13 (fun H locs hW => ?_)
    refine lv_if_eq (tgt := 34) hx hb dX0_queueAt_16 (by decide) (fun c_8 => ?_) (fun c_8 => ?_)
    · refine lv_iinc (v := nI 2) (lv' := [(2, .int (nI 2)), (0, .ref (a 0)), (1, .int x)]) hx hb dX0_queueAt_34 hl (k := 0) rfl (k_inc _) (by decide) rfl (fun ls hl => ?_)
      refine lv_goto (tgt := 2) hx hb dX0_queueAt_37 (by decide) ?_
      refine lv_iload_n hx hb dX0_queueAt_2 rfl (lv_at hl 0 rfl) ?_
      refine lv_iconst (v := nI 3) hx hb dX0_queueAt_3 (by decide +kernel) ?_
      refine lv_icmp_ge (tgt := 40) hx hb dX0_queueAt_4 (by decide) (fun c => absurd c (by decide +kernel)) (fun _ => ?_)
      refine lv_aload_n hx hb dX0_queueAt_7 rfl (lv_at hl 1 rfl) ?_
      refine k_get X hW inG0 rfl 1 (by decide) fl_X0_20 rfl 0 rfl (v := .ref (a 2)) rfl dX0_queueAt_8 ?_
      refine lv_iload_n hx hb dX0_queueAt_11 rfl (lv_at hl 0 rfl) ?_
      refine k_aald X hW 2 1 rfl rfl (j := 2) (b := a 9) rfl (by decide) (by decide) rfl dX0_queueAt_12 ?_
      obtain ⟨z_10, hz_10⟩ : ∃ z, m_X3_isCalled_r (u 8) = z := ⟨_, rfl⟩
      have hM_11 := (c_X3_isCalled l D k (a 9) (u 8) )
      rw [hz_10] at hM_11
      refine kNi (As := []) (rest := []) X hW hM_11 yw_X3_isCalled lkn_X0_89 ⟨Nat.le_of_ble_eq_true rfl, Nat.le_of_ble_eq_true rfl⟩ (wr := [cO a u, cSe k a u, cQs k a, cFl k a u, cCa k a u, cHo k a u, cTa k a u, qC (a 7) (u 6), qC (a 8) (u 7)]) (w_idx (n := 10) [0, 1, 2, 3, 4, 5, 6, 7, 8, 9] rfl (by decide) rfl) (w' := cardW k a u) (w_idx (n := 10) [0, 1, 2, 3, 4, 5, 6, 7, 8, 9] rfl (by decide) rfl) (k_rcv X hW (ci := 3) (q0 := 9) rfl rfl) rfl hl.1 rfl (Nat.le_of_ble_eq_true rfl) ⟨Nat.zero_le _, Nat.zero_le _⟩ dX0_queueAt_13 (fun H locs hW => ?_)
      refine lv_if_eq (tgt := 34) hx hb dX0_queueAt_16 (by decide) (fun c_12 => ?_) (fun c_12 => ?_)
      · refine lv_iinc (v := nI 3) (lv' := [(2, .int (nI 3)), (0, .ref (a 0)), (1, .int x)]) hx hb dX0_queueAt_34 hl (k := 0) rfl (k_inc _) (by decide) rfl (fun ls hl => ?_)
        refine lv_goto (tgt := 2) hx hb dX0_queueAt_37 (by decide) ?_
        refine lv_iload_n hx hb dX0_queueAt_2 rfl (lv_at hl 0 rfl) ?_
        refine lv_iconst (v := nI 3) hx hb dX0_queueAt_3 (by decide +kernel) ?_
        refine lv_icmp_ge (tgt := 40) hx hb dX0_queueAt_4 (by decide) (fun _ => ?_) (fun c => absurd (by decide +kernel) c)
        refine lv_iconst (v := (-1)) hx hb dX0_queueAt_40 (by decide +kernel) ?_
        exact hQ _ _ _ _ _ _ hW dX0_queueAt_41 (by subst hz_10; subst hz_6; subst hz_2; rw [m_X0_queueAt_r, if_pos c_4, if_pos c_8, if_pos c_12]) rfl
      · refine lv_aload_n hx hb dX0_queueAt_19 rfl (lv_at hl 1 rfl) ?_
        refine k_get X hW inG0 rfl 1 (by decide) fl_X0_20 rfl 0 rfl (v := .ref (a 2)) rfl dX0_queueAt_20 ?_
        refine lv_iload_n hx hb dX0_queueAt_23 rfl (lv_at hl 0 rfl) ?_
        refine k_aald X hW 2 1 rfl rfl (j := 2) (b := a 9) rfl (by decide) (by decide) rfl dX0_queueAt_24 ?_
        refine k_getN X hW inG3 rfl 3 (by decide) fln_X0_96 rfl 9 rfl (v := .int (u 8 3)) rfl dX0_queueAt_25 ?_
        refine lv_iload_n hx hb dX0_queueAt_28 rfl (lv_at hl 2 rfl) ?_
        refine lv_icmp_ne (tgt := 34) hx hb dX0_queueAt_29 (by decide) (fun c_14 => ?_) (fun c_14 => ?_)
        · refine lv_iinc (v := nI 3) (lv' := [(2, .int (nI 3)), (0, .ref (a 0)), (1, .int x)]) hx hb dX0_queueAt_34 hl (k := 0) rfl (k_inc _) (by decide) rfl (fun ls hl => ?_)
          refine lv_goto (tgt := 2) hx hb dX0_queueAt_37 (by decide) ?_
          refine lv_iload_n hx hb dX0_queueAt_2 rfl (lv_at hl 0 rfl) ?_
          refine lv_iconst (v := nI 3) hx hb dX0_queueAt_3 (by decide +kernel) ?_
          refine lv_icmp_ge (tgt := 40) hx hb dX0_queueAt_4 (by decide) (fun _ => ?_) (fun c => absurd (by decide +kernel) c)
          refine lv_iconst (v := (-1)) hx hb dX0_queueAt_40 (by decide +kernel) ?_
          exact hQ _ _ _ _ _ _ hW dX0_queueAt_41 (by subst hz_10; subst hz_6; subst hz_2; rw [m_X0_queueAt_r, if_pos c_4, if_pos c_8, if_neg c_12, if_neg c_14]) rfl
        · refine lv_iload_n hx hb dX0_queueAt_32 rfl (lv_at hl 0 rfl) ?_
          exact hQ _ _ _ _ _ _ hW dX0_queueAt_33 (by subst hz_10; subst hz_6; subst hz_2; rw [m_X0_queueAt_r, if_pos c_4, if_pos c_8, if_neg c_12, if_pos c_14]) rfl
    · refine lv_aload_n hx hb dX0_queueAt_19 rfl (lv_at hl 1 rfl) ?_
      refine k_get X hW inG0 rfl 1 (by decide) fl_X0_20 rfl 0 rfl (v := .ref (a 2)) rfl dX0_queueAt_20 ?_
      refine lv_iload_n hx hb dX0_queueAt_23 rfl (lv_at hl 0 rfl) ?_
      refine k_aald X hW 2 1 rfl rfl (j := 1) (b := a 8) rfl (by decide) (by decide) rfl dX0_queueAt_24 ?_
      refine k_getN X hW inG3 rfl 3 (by decide) fln_X0_96 rfl 8 rfl (v := .int (u 7 3)) rfl dX0_queueAt_25 ?_
      refine lv_iload_n hx hb dX0_queueAt_28 rfl (lv_at hl 2 rfl) ?_
      refine lv_icmp_ne (tgt := 34) hx hb dX0_queueAt_29 (by decide) (fun c_16 => ?_) (fun c_16 => ?_)
      · refine lv_iinc (v := nI 2) (lv' := [(2, .int (nI 2)), (0, .ref (a 0)), (1, .int x)]) hx hb dX0_queueAt_34 hl (k := 0) rfl (k_inc _) (by decide) rfl (fun ls hl => ?_)
        refine lv_goto (tgt := 2) hx hb dX0_queueAt_37 (by decide) ?_
        refine lv_iload_n hx hb dX0_queueAt_2 rfl (lv_at hl 0 rfl) ?_
        refine lv_iconst (v := nI 3) hx hb dX0_queueAt_3 (by decide +kernel) ?_
        refine lv_icmp_ge (tgt := 40) hx hb dX0_queueAt_4 (by decide) (fun c => absurd c (by decide +kernel)) (fun _ => ?_)
        refine lv_aload_n hx hb dX0_queueAt_7 rfl (lv_at hl 1 rfl) ?_
        refine k_get X hW inG0 rfl 1 (by decide) fl_X0_20 rfl 0 rfl (v := .ref (a 2)) rfl dX0_queueAt_8 ?_
        refine lv_iload_n hx hb dX0_queueAt_11 rfl (lv_at hl 0 rfl) ?_
        refine k_aald X hW 2 1 rfl rfl (j := 2) (b := a 9) rfl (by decide) (by decide) rfl dX0_queueAt_12 ?_
        obtain ⟨z_18, hz_18⟩ : ∃ z, m_X3_isCalled_r (u 8) = z := ⟨_, rfl⟩
        have hM_19 := (c_X3_isCalled l D k (a 9) (u 8) )
        rw [hz_18] at hM_19
        refine kNi (As := []) (rest := []) X hW hM_19 yw_X3_isCalled lkn_X0_89 ⟨Nat.le_of_ble_eq_true rfl, Nat.le_of_ble_eq_true rfl⟩ (wr := [cO a u, cSe k a u, cQs k a, cFl k a u, cCa k a u, cHo k a u, cTa k a u, qC (a 7) (u 6), qC (a 8) (u 7)]) (w_idx (n := 10) [0, 1, 2, 3, 4, 5, 6, 7, 8, 9] rfl (by decide) rfl) (w' := cardW k a u) (w_idx (n := 10) [0, 1, 2, 3, 4, 5, 6, 7, 8, 9] rfl (by decide) rfl) (k_rcv X hW (ci := 3) (q0 := 9) rfl rfl) rfl hl.1 rfl (Nat.le_of_ble_eq_true rfl) ⟨Nat.zero_le _, Nat.zero_le _⟩ dX0_queueAt_13 (fun H locs hW => ?_)
        refine lv_if_eq (tgt := 34) hx hb dX0_queueAt_16 (by decide) (fun c_20 => ?_) (fun c_20 => ?_)
        · refine lv_iinc (v := nI 3) (lv' := [(2, .int (nI 3)), (0, .ref (a 0)), (1, .int x)]) hx hb dX0_queueAt_34 hl (k := 0) rfl (k_inc _) (by decide) rfl (fun ls hl => ?_)
          refine lv_goto (tgt := 2) hx hb dX0_queueAt_37 (by decide) ?_
          refine lv_iload_n hx hb dX0_queueAt_2 rfl (lv_at hl 0 rfl) ?_
          refine lv_iconst (v := nI 3) hx hb dX0_queueAt_3 (by decide +kernel) ?_
          refine lv_icmp_ge (tgt := 40) hx hb dX0_queueAt_4 (by decide) (fun _ => ?_) (fun c => absurd (by decide +kernel) c)
          refine lv_iconst (v := (-1)) hx hb dX0_queueAt_40 (by decide +kernel) ?_
          exact hQ _ _ _ _ _ _ hW dX0_queueAt_41 (by subst hz_18; subst hz_6; subst hz_2; rw [m_X0_queueAt_r, if_pos c_4, if_neg c_8, if_neg c_16, if_pos c_20]) rfl
        · refine lv_aload_n hx hb dX0_queueAt_19 rfl (lv_at hl 1 rfl) ?_
          refine k_get X hW inG0 rfl 1 (by decide) fl_X0_20 rfl 0 rfl (v := .ref (a 2)) rfl dX0_queueAt_20 ?_
          refine lv_iload_n hx hb dX0_queueAt_23 rfl (lv_at hl 0 rfl) ?_
          refine k_aald X hW 2 1 rfl rfl (j := 2) (b := a 9) rfl (by decide) (by decide) rfl dX0_queueAt_24 ?_
          refine k_getN X hW inG3 rfl 3 (by decide) fln_X0_96 rfl 9 rfl (v := .int (u 8 3)) rfl dX0_queueAt_25 ?_
          refine lv_iload_n hx hb dX0_queueAt_28 rfl (lv_at hl 2 rfl) ?_
          refine lv_icmp_ne (tgt := 34) hx hb dX0_queueAt_29 (by decide) (fun c_22 => ?_) (fun c_22 => ?_)
          · refine lv_iinc (v := nI 3) (lv' := [(2, .int (nI 3)), (0, .ref (a 0)), (1, .int x)]) hx hb dX0_queueAt_34 hl (k := 0) rfl (k_inc _) (by decide) rfl (fun ls hl => ?_)
            refine lv_goto (tgt := 2) hx hb dX0_queueAt_37 (by decide) ?_
            refine lv_iload_n hx hb dX0_queueAt_2 rfl (lv_at hl 0 rfl) ?_
            refine lv_iconst (v := nI 3) hx hb dX0_queueAt_3 (by decide +kernel) ?_
            refine lv_icmp_ge (tgt := 40) hx hb dX0_queueAt_4 (by decide) (fun _ => ?_) (fun c => absurd (by decide +kernel) c)
            refine lv_iconst (v := (-1)) hx hb dX0_queueAt_40 (by decide +kernel) ?_
            exact hQ _ _ _ _ _ _ hW dX0_queueAt_41 (by subst hz_18; subst hz_6; subst hz_2; rw [m_X0_queueAt_r, if_pos c_4, if_neg c_8, if_neg c_16, if_neg c_20, if_neg c_22]) rfl
          · refine lv_iload_n hx hb dX0_queueAt_32 rfl (lv_at hl 0 rfl) ?_
            exact hQ _ _ _ _ _ _ hW dX0_queueAt_33 (by subst hz_18; subst hz_6; subst hz_2; rw [m_X0_queueAt_r, if_pos c_4, if_neg c_8, if_neg c_16, if_neg c_20, if_pos c_22]) rfl
      · refine lv_iload_n hx hb dX0_queueAt_32 rfl (lv_at hl 0 rfl) ?_
        exact hQ _ _ _ _ _ _ hW dX0_queueAt_33 (by subst hz_6; subst hz_2; rw [m_X0_queueAt_r, if_pos c_4, if_neg c_8, if_pos c_16]) rfl
  · refine lv_aload_n hx hb dX0_queueAt_19 rfl (lv_at hl 1 rfl) ?_
    refine k_get X hW inG0 rfl 1 (by decide) fl_X0_20 rfl 0 rfl (v := .ref (a 2)) rfl dX0_queueAt_20 ?_
    refine lv_iload_n hx hb dX0_queueAt_23 rfl (lv_at hl 0 rfl) ?_
    refine k_aald X hW 2 1 rfl rfl (j := 0) (b := a 7) rfl (by decide) (by decide) rfl dX0_queueAt_24 ?_
    refine k_getN X hW inG3 rfl 3 (by decide) fln_X0_96 rfl 7 rfl (v := .int (u 6 3)) rfl dX0_queueAt_25 ?_
    refine lv_iload_n hx hb dX0_queueAt_28 rfl (lv_at hl 2 rfl) ?_
    refine lv_icmp_ne (tgt := 34) hx hb dX0_queueAt_29 (by decide) (fun c_24 => ?_) (fun c_24 => ?_)
    · refine lv_iinc (v := nI 1) (lv' := [(2, .int (nI 1)), (0, .ref (a 0)), (1, .int x)]) hx hb dX0_queueAt_34 hl (k := 0) rfl (k_inc _) (by decide) rfl (fun ls hl => ?_)
      refine lv_goto (tgt := 2) hx hb dX0_queueAt_37 (by decide) ?_
      refine lv_iload_n hx hb dX0_queueAt_2 rfl (lv_at hl 0 rfl) ?_
      refine lv_iconst (v := nI 3) hx hb dX0_queueAt_3 (by decide +kernel) ?_
      refine lv_icmp_ge (tgt := 40) hx hb dX0_queueAt_4 (by decide) (fun c => absurd c (by decide +kernel)) (fun _ => ?_)
      refine lv_aload_n hx hb dX0_queueAt_7 rfl (lv_at hl 1 rfl) ?_
      refine k_get X hW inG0 rfl 1 (by decide) fl_X0_20 rfl 0 rfl (v := .ref (a 2)) rfl dX0_queueAt_8 ?_
      refine lv_iload_n hx hb dX0_queueAt_11 rfl (lv_at hl 0 rfl) ?_
      refine k_aald X hW 2 1 rfl rfl (j := 1) (b := a 8) rfl (by decide) (by decide) rfl dX0_queueAt_12 ?_
      obtain ⟨z_26, hz_26⟩ : ∃ z, m_X3_isCalled_r (u 7) = z := ⟨_, rfl⟩
      have hM_27 := (c_X3_isCalled l D k (a 8) (u 7) )
      rw [hz_26] at hM_27
      refine kNi (As := []) (rest := []) X hW hM_27 yw_X3_isCalled lkn_X0_89 ⟨Nat.le_of_ble_eq_true rfl, Nat.le_of_ble_eq_true rfl⟩ (wr := [cO a u, cSe k a u, cQs k a, cFl k a u, cCa k a u, cHo k a u, cTa k a u, qC (a 7) (u 6), qC (a 9) (u 8)]) (w_idx (n := 10) [0, 1, 2, 3, 4, 5, 6, 7, 9, 8] rfl (by decide) rfl) (w' := cardW k a u) (w_idx (n := 10) [0, 1, 2, 3, 4, 5, 6, 7, 9, 8] rfl (by decide) rfl) (k_rcv X hW (ci := 3) (q0 := 8) rfl rfl) rfl hl.1 rfl (Nat.le_of_ble_eq_true rfl) ⟨Nat.zero_le _, Nat.zero_le _⟩ dX0_queueAt_13 (fun H locs hW => ?_)
      refine lv_if_eq (tgt := 34) hx hb dX0_queueAt_16 (by decide) (fun c_28 => ?_) (fun c_28 => ?_)
      · refine lv_iinc (v := nI 2) (lv' := [(2, .int (nI 2)), (0, .ref (a 0)), (1, .int x)]) hx hb dX0_queueAt_34 hl (k := 0) rfl (k_inc _) (by decide) rfl (fun ls hl => ?_)
        refine lv_goto (tgt := 2) hx hb dX0_queueAt_37 (by decide) ?_
        refine lv_iload_n hx hb dX0_queueAt_2 rfl (lv_at hl 0 rfl) ?_
        refine lv_iconst (v := nI 3) hx hb dX0_queueAt_3 (by decide +kernel) ?_
        refine lv_icmp_ge (tgt := 40) hx hb dX0_queueAt_4 (by decide) (fun c => absurd c (by decide +kernel)) (fun _ => ?_)
        refine lv_aload_n hx hb dX0_queueAt_7 rfl (lv_at hl 1 rfl) ?_
        refine k_get X hW inG0 rfl 1 (by decide) fl_X0_20 rfl 0 rfl (v := .ref (a 2)) rfl dX0_queueAt_8 ?_
        refine lv_iload_n hx hb dX0_queueAt_11 rfl (lv_at hl 0 rfl) ?_
        refine k_aald X hW 2 1 rfl rfl (j := 2) (b := a 9) rfl (by decide) (by decide) rfl dX0_queueAt_12 ?_
        obtain ⟨z_30, hz_30⟩ : ∃ z, m_X3_isCalled_r (u 8) = z := ⟨_, rfl⟩
        have hM_31 := (c_X3_isCalled l D k (a 9) (u 8) )
        rw [hz_30] at hM_31
        refine kNi (As := []) (rest := []) X hW hM_31 yw_X3_isCalled lkn_X0_89 ⟨Nat.le_of_ble_eq_true rfl, Nat.le_of_ble_eq_true rfl⟩ (wr := [cO a u, cSe k a u, cQs k a, cFl k a u, cCa k a u, cHo k a u, cTa k a u, qC (a 7) (u 6), qC (a 8) (u 7)]) (w_idx (n := 10) [0, 1, 2, 3, 4, 5, 6, 7, 8, 9] rfl (by decide) rfl) (w' := cardW k a u) (w_idx (n := 10) [0, 1, 2, 3, 4, 5, 6, 7, 8, 9] rfl (by decide) rfl) (k_rcv X hW (ci := 3) (q0 := 9) rfl rfl) rfl hl.1 rfl (Nat.le_of_ble_eq_true rfl) ⟨Nat.zero_le _, Nat.zero_le _⟩ dX0_queueAt_13 (fun H locs hW => ?_)
        refine lv_if_eq (tgt := 34) hx hb dX0_queueAt_16 (by decide) (fun c_32 => ?_) (fun c_32 => ?_)
        · refine lv_iinc (v := nI 3) (lv' := [(2, .int (nI 3)), (0, .ref (a 0)), (1, .int x)]) hx hb dX0_queueAt_34 hl (k := 0) rfl (k_inc _) (by decide) rfl (fun ls hl => ?_)
          refine lv_goto (tgt := 2) hx hb dX0_queueAt_37 (by decide) ?_
          refine lv_iload_n hx hb dX0_queueAt_2 rfl (lv_at hl 0 rfl) ?_
          refine lv_iconst (v := nI 3) hx hb dX0_queueAt_3 (by decide +kernel) ?_
          refine lv_icmp_ge (tgt := 40) hx hb dX0_queueAt_4 (by decide) (fun _ => ?_) (fun c => absurd (by decide +kernel) c)
          refine lv_iconst (v := (-1)) hx hb dX0_queueAt_40 (by decide +kernel) ?_
          exact hQ _ _ _ _ _ _ hW dX0_queueAt_41 (by subst hz_30; subst hz_26; subst hz_2; rw [m_X0_queueAt_r, if_neg c_4, if_neg c_24, if_pos c_28, if_pos c_32]) rfl
        · refine lv_aload_n hx hb dX0_queueAt_19 rfl (lv_at hl 1 rfl) ?_
          refine k_get X hW inG0 rfl 1 (by decide) fl_X0_20 rfl 0 rfl (v := .ref (a 2)) rfl dX0_queueAt_20 ?_
          refine lv_iload_n hx hb dX0_queueAt_23 rfl (lv_at hl 0 rfl) ?_
          refine k_aald X hW 2 1 rfl rfl (j := 2) (b := a 9) rfl (by decide) (by decide) rfl dX0_queueAt_24 ?_
          refine k_getN X hW inG3 rfl 3 (by decide) fln_X0_96 rfl 9 rfl (v := .int (u 8 3)) rfl dX0_queueAt_25 ?_
          refine lv_iload_n hx hb dX0_queueAt_28 rfl (lv_at hl 2 rfl) ?_
          refine lv_icmp_ne (tgt := 34) hx hb dX0_queueAt_29 (by decide) (fun c_34 => ?_) (fun c_34 => ?_)
          · refine lv_iinc (v := nI 3) (lv' := [(2, .int (nI 3)), (0, .ref (a 0)), (1, .int x)]) hx hb dX0_queueAt_34 hl (k := 0) rfl (k_inc _) (by decide) rfl (fun ls hl => ?_)
            refine lv_goto (tgt := 2) hx hb dX0_queueAt_37 (by decide) ?_
            refine lv_iload_n hx hb dX0_queueAt_2 rfl (lv_at hl 0 rfl) ?_
            refine lv_iconst (v := nI 3) hx hb dX0_queueAt_3 (by decide +kernel) ?_
            refine lv_icmp_ge (tgt := 40) hx hb dX0_queueAt_4 (by decide) (fun _ => ?_) (fun c => absurd (by decide +kernel) c)
            refine lv_iconst (v := (-1)) hx hb dX0_queueAt_40 (by decide +kernel) ?_
            exact hQ _ _ _ _ _ _ hW dX0_queueAt_41 (by subst hz_30; subst hz_26; subst hz_2; rw [m_X0_queueAt_r, if_neg c_4, if_neg c_24, if_pos c_28, if_neg c_32, if_neg c_34]) rfl
          · refine lv_iload_n hx hb dX0_queueAt_32 rfl (lv_at hl 0 rfl) ?_
            exact hQ _ _ _ _ _ _ hW dX0_queueAt_33 (by subst hz_30; subst hz_26; subst hz_2; rw [m_X0_queueAt_r, if_neg c_4, if_neg c_24, if_pos c_28, if_neg c_32, if_pos c_34]) rfl
      · refine lv_aload_n hx hb dX0_queueAt_19 rfl (lv_at hl 1 rfl) ?_
        refine k_get X hW inG0 rfl 1 (by decide) fl_X0_20 rfl 0 rfl (v := .ref (a 2)) rfl dX0_queueAt_20 ?_
        refine lv_iload_n hx hb dX0_queueAt_23 rfl (lv_at hl 0 rfl) ?_
        refine k_aald X hW 2 1 rfl rfl (j := 1) (b := a 8) rfl (by decide) (by decide) rfl dX0_queueAt_24 ?_
        refine k_getN X hW inG3 rfl 3 (by decide) fln_X0_96 rfl 8 rfl (v := .int (u 7 3)) rfl dX0_queueAt_25 ?_
        refine lv_iload_n hx hb dX0_queueAt_28 rfl (lv_at hl 2 rfl) ?_
        refine lv_icmp_ne (tgt := 34) hx hb dX0_queueAt_29 (by decide) (fun c_36 => ?_) (fun c_36 => ?_)
        · refine lv_iinc (v := nI 2) (lv' := [(2, .int (nI 2)), (0, .ref (a 0)), (1, .int x)]) hx hb dX0_queueAt_34 hl (k := 0) rfl (k_inc _) (by decide) rfl (fun ls hl => ?_)
          refine lv_goto (tgt := 2) hx hb dX0_queueAt_37 (by decide) ?_
          refine lv_iload_n hx hb dX0_queueAt_2 rfl (lv_at hl 0 rfl) ?_
          refine lv_iconst (v := nI 3) hx hb dX0_queueAt_3 (by decide +kernel) ?_
          refine lv_icmp_ge (tgt := 40) hx hb dX0_queueAt_4 (by decide) (fun c => absurd c (by decide +kernel)) (fun _ => ?_)
          refine lv_aload_n hx hb dX0_queueAt_7 rfl (lv_at hl 1 rfl) ?_
          refine k_get X hW inG0 rfl 1 (by decide) fl_X0_20 rfl 0 rfl (v := .ref (a 2)) rfl dX0_queueAt_8 ?_
          refine lv_iload_n hx hb dX0_queueAt_11 rfl (lv_at hl 0 rfl) ?_
          refine k_aald X hW 2 1 rfl rfl (j := 2) (b := a 9) rfl (by decide) (by decide) rfl dX0_queueAt_12 ?_
          obtain ⟨z_38, hz_38⟩ : ∃ z, m_X3_isCalled_r (u 8) = z := ⟨_, rfl⟩
          have hM_39 := (c_X3_isCalled l D k (a 9) (u 8) )
          rw [hz_38] at hM_39
          refine kNi (As := []) (rest := []) X hW hM_39 yw_X3_isCalled lkn_X0_89 ⟨Nat.le_of_ble_eq_true rfl, Nat.le_of_ble_eq_true rfl⟩ (wr := [cO a u, cSe k a u, cQs k a, cFl k a u, cCa k a u, cHo k a u, cTa k a u, qC (a 7) (u 6), qC (a 8) (u 7)]) (w_idx (n := 10) [0, 1, 2, 3, 4, 5, 6, 7, 8, 9] rfl (by decide) rfl) (w' := cardW k a u) (w_idx (n := 10) [0, 1, 2, 3, 4, 5, 6, 7, 8, 9] rfl (by decide) rfl) (k_rcv X hW (ci := 3) (q0 := 9) rfl rfl) rfl hl.1 rfl (Nat.le_of_ble_eq_true rfl) ⟨Nat.zero_le _, Nat.zero_le _⟩ dX0_queueAt_13 (fun H locs hW => ?_)
          refine lv_if_eq (tgt := 34) hx hb dX0_queueAt_16 (by decide) (fun c_40 => ?_) (fun c_40 => ?_)
          · refine lv_iinc (v := nI 3) (lv' := [(2, .int (nI 3)), (0, .ref (a 0)), (1, .int x)]) hx hb dX0_queueAt_34 hl (k := 0) rfl (k_inc _) (by decide) rfl (fun ls hl => ?_)
            refine lv_goto (tgt := 2) hx hb dX0_queueAt_37 (by decide) ?_
            refine lv_iload_n hx hb dX0_queueAt_2 rfl (lv_at hl 0 rfl) ?_
            refine lv_iconst (v := nI 3) hx hb dX0_queueAt_3 (by decide +kernel) ?_
            refine lv_icmp_ge (tgt := 40) hx hb dX0_queueAt_4 (by decide) (fun _ => ?_) (fun c => absurd (by decide +kernel) c)
            refine lv_iconst (v := (-1)) hx hb dX0_queueAt_40 (by decide +kernel) ?_
            exact hQ _ _ _ _ _ _ hW dX0_queueAt_41 (by subst hz_38; subst hz_26; subst hz_2; rw [m_X0_queueAt_r, if_neg c_4, if_neg c_24, if_neg c_28, if_neg c_36, if_pos c_40]) rfl
          · refine lv_aload_n hx hb dX0_queueAt_19 rfl (lv_at hl 1 rfl) ?_
            refine k_get X hW inG0 rfl 1 (by decide) fl_X0_20 rfl 0 rfl (v := .ref (a 2)) rfl dX0_queueAt_20 ?_
            refine lv_iload_n hx hb dX0_queueAt_23 rfl (lv_at hl 0 rfl) ?_
            refine k_aald X hW 2 1 rfl rfl (j := 2) (b := a 9) rfl (by decide) (by decide) rfl dX0_queueAt_24 ?_
            refine k_getN X hW inG3 rfl 3 (by decide) fln_X0_96 rfl 9 rfl (v := .int (u 8 3)) rfl dX0_queueAt_25 ?_
            refine lv_iload_n hx hb dX0_queueAt_28 rfl (lv_at hl 2 rfl) ?_
            refine lv_icmp_ne (tgt := 34) hx hb dX0_queueAt_29 (by decide) (fun c_42 => ?_) (fun c_42 => ?_)
            · refine lv_iinc (v := nI 3) (lv' := [(2, .int (nI 3)), (0, .ref (a 0)), (1, .int x)]) hx hb dX0_queueAt_34 hl (k := 0) rfl (k_inc _) (by decide) rfl (fun ls hl => ?_)
              refine lv_goto (tgt := 2) hx hb dX0_queueAt_37 (by decide) ?_
              refine lv_iload_n hx hb dX0_queueAt_2 rfl (lv_at hl 0 rfl) ?_
              refine lv_iconst (v := nI 3) hx hb dX0_queueAt_3 (by decide +kernel) ?_
              refine lv_icmp_ge (tgt := 40) hx hb dX0_queueAt_4 (by decide) (fun _ => ?_) (fun c => absurd (by decide +kernel) c)
              refine lv_iconst (v := (-1)) hx hb dX0_queueAt_40 (by decide +kernel) ?_
              exact hQ _ _ _ _ _ _ hW dX0_queueAt_41 (by subst hz_38; subst hz_26; subst hz_2; rw [m_X0_queueAt_r, if_neg c_4, if_neg c_24, if_neg c_28, if_neg c_36, if_neg c_40, if_neg c_42]) rfl
            · refine lv_iload_n hx hb dX0_queueAt_32 rfl (lv_at hl 0 rfl) ?_
              exact hQ _ _ _ _ _ _ hW dX0_queueAt_33 (by subst hz_38; subst hz_26; subst hz_2; rw [m_X0_queueAt_r, if_neg c_4, if_neg c_24, if_neg c_28, if_neg c_36, if_neg c_40, if_pos c_42]) rfl
        · refine lv_iload_n hx hb dX0_queueAt_32 rfl (lv_at hl 0 rfl) ?_
          exact hQ _ _ _ _ _ _ hW dX0_queueAt_33 (by subst hz_26; subst hz_2; rw [m_X0_queueAt_r, if_neg c_4, if_neg c_24, if_neg c_28, if_pos c_36]) rfl
    · refine lv_iload_n hx hb dX0_queueAt_32 rfl (lv_at hl 0 rfl) ?_
      exact hQ _ _ _ _ _ _ hW dX0_queueAt_33 (by subst hz_2; rw [m_X0_queueAt_r, if_neg c_4, if_pos c_24]) rfl
theorem hf_n {u : CS} {x : Int32} (hc : CM u) (h : ¬ m_X0_hasFrame_r u x = 0) : x = nI (tn x) ∧ tn x < cn u := by
  unfold m_X0_hasFrame_r at h
  by_cases h0 : x < 0
  · rw [if_pos h0] at h; exact absurd rfl h
  · rw [if_neg h0] at h
    by_cases h1 : u 0 3 ≤ x
    · rw [if_pos h1] at h; exact absurd rfl h
    · have e := tn_ge h0
      refine ⟨e, Nat.lt_of_not_le (fun q => h1 ?_)⟩
      rw [e, hc.1]
      exact nI_le q (tn_lt x)
end
section
def m_X0_whySilent_r (u : CS) (q : Nat → Int32) : Int32 := if (m_X3_isCalled_r q) = 0 then (if q 4 = 0 then (if (m_X0_hasFrame_r u (q 6)) = 0 then nI 3 else if q 5 < q 2 then (if (u 0 2) - (u 3 (tn (q 6))) < q 1 then nI 4 else nI 0) else if (u 0 2) - (u 3 (tn (q 6))) < q 1 then nI 0 else nI 0) else nI 2) else nI 1
set_option maxHeartbeats 4000000 in
set_option maxRecDepth 100000 in
theorem c_X0_whySilent (l : Launch) (D : va_G) (k : Nat → ClassId) (a : Nat → Nat) (b : Nat) (u : CS) (q : Nat → Int32)  (hc : CM u)  : mI l yX0_whySilent (wsY yX0_whySilent cX0_whySilent 4 (some .int)) 1 D k [.ref (a 0), .ref b] [cO a u, cCa k a u, qC b q] [cO a u, cCa k a u, qC b q] (m_X0_whySilent_r u q) := by
  refine mI_intro rfl (Nat.le_of_ble_eq_true rfl) (Or.inl rfl) ?_
  intro p e s m args below meth c A Q ls X hW hl hQ
  have hx := X.hx
  have hb := X.hb
  have hl : lv_has ls 4 [(0, .ref (a 0)), (1, .ref b)] := hl
  have hc4 := hc.2.1
  refine lv_aload_n hx hb dX0_whySilent_0 rfl (lv_at hl 1 rfl) ?_
  obtain ⟨z_1, hz_1⟩ : ∃ z, m_X3_isCalled_r q = z := ⟨_, rfl⟩
  have hM_2 := (c_X3_isCalled l D k b q )
  rw [hz_1] at hM_2
  refine kNi (As := []) (rest := []) X hW hM_2 yw_X3_isCalled lkn_X0_89 ⟨Nat.le_of_ble_eq_true rfl, Nat.le_of_ble_eq_true rfl⟩ (wr := [cO a u, cCa k a u]) (w_idx (n := 3) [0, 1, 2] rfl (by decide) rfl) (w' := [cO a u, cCa k a u, qC b q]) (w_idx (n := 3) [0, 1, 2] rfl (by decide) rfl) (k_rcv X hW (ci := 3) (q0 := 2) rfl rfl) rfl hl.1 rfl (Nat.le_of_ble_eq_true rfl) ⟨Nat.zero_le _, Nat.zero_le _⟩ dX0_whySilent_1 (fun H locs hW => ?_)
  refine lv_if_eq (tgt := 9) hx hb dX0_whySilent_4 (by decide) (fun c_3 => ?_) (fun c_3 => ?_)
  · refine lv_aload_n hx hb dX0_whySilent_9 rfl (lv_at hl 1 rfl) ?_
    refine k_getN X hW inG3 rfl 4 (by decide) fln_X0_85 rfl 2 rfl (v := .int (q 4)) rfl dX0_whySilent_10 ?_
    refine lv_if_eq (tgt := 18) hx hb dX0_whySilent_13 (by decide) (fun c_4 => ?_) (fun c_4 => ?_)
    · refine lv_aload_n hx hb dX0_whySilent_18 rfl (lv_at hl 0 rfl) ?_
      refine lv_aload_n hx hb dX0_whySilent_19 rfl (lv_at hl 1 rfl) ?_
      refine k_getN X hW inG3 rfl 6 (by decide) fln_X0_82 rfl 2 rfl (v := .int (q 6)) rfl dX0_whySilent_20 ?_
      obtain ⟨z_5, hz_5⟩ : ∃ z, m_X0_hasFrame_r u (q 6) = z := ⟨_, rfl⟩
      have hM_6 := (c_X0_hasFrame l D k a u (q 6))
      rw [hz_5] at hM_6
      refine kVi (As := [.int (q 6)]) (rest := []) X hW hM_6 yw_X0_hasFrame lk_X0_117 ⟨Nat.le_of_ble_eq_true rfl, Nat.le_of_ble_eq_true rfl⟩ (wr := [cCa k a u, qC b q]) (w_idx (n := 3) [1, 2, 0] rfl (by decide) rfl) (w' := [cO a u, cCa k a u, qC b q]) (w_idx (n := 3) [2, 0, 1] rfl (by decide) rfl) (k_rcv X hW (ci := 0) (q0 := 0) rfl rfl) rfl hl.1 rfl (Nat.le_of_ble_eq_true rfl) ⟨Nat.zero_le _, Nat.zero_le _⟩ dX0_whySilent_23 (fun H locs hW => ?_)
      refine lv_if_ne (tgt := 31) hx hb dX0_whySilent_26 (by decide) (fun c_7 => ?_) (fun c_7 => ?_)
      · obtain ⟨hi_8, hj_8⟩ := hf_n hc (by rw [hz_5]; exact c_7)
        refine lv_aload_n hx hb dX0_whySilent_31 rfl (lv_at hl 1 rfl) ?_
        refine k_getN X hW inG3 rfl 5 (by decide) fln_X0_76 rfl 2 rfl (v := .int (q 5)) rfl dX0_whySilent_32 ?_
        refine lv_aload_n hx hb dX0_whySilent_35 rfl (lv_at hl 1 rfl) ?_
        refine k_getN X hW inG3 rfl 2 (by decide) fln_X0_73 rfl 2 rfl (v := .int (q 2)) rfl dX0_whySilent_36 ?_
        refine lv_icmp_lt (tgt := 46) hx hb dX0_whySilent_39 (by decide) (fun c_9 => ?_) (fun c_9 => ?_)
        · refine lv_iconst (v := nI 0) hx hb dX0_whySilent_46 (by decide +kernel) ?_
          refine lv_istore_n (lv' := [(2, .int (nI 0)), (0, .ref (a 0)), (1, .ref b)]) hx hb dX0_whySilent_47 rfl hl (by decide) rfl (fun ls hl => ?_)
          refine lv_aload_n hx hb dX0_whySilent_48 rfl (lv_at hl 1 rfl) ?_
          refine k_get X hW inG0 rfl 2 (by decide) fl_X0_24 rfl 0 rfl (v := .int (u 0 2)) rfl dX0_whySilent_49 ?_
          refine lv_aload_n hx hb dX0_whySilent_52 rfl (lv_at hl 1 rfl) ?_
          refine k_get X hW inG0 rfl 5 (by decide) fl_X0_34 rfl 0 rfl (v := .ref (a 4)) rfl dX0_whySilent_53 ?_
          refine lv_aload_n hx hb dX0_whySilent_56 rfl (lv_at hl 2 rfl) ?_
          refine k_getN X hW inG3 rfl 6 (by decide) fln_X0_82 rfl 2 rfl (v := .int (q 6)) rfl dX0_whySilent_57 ?_
          refine k_top (y := nI (tn (q 6))) (hi_8) ?_
          refine k_iald X hW 1 rfl (j := (tn (q 6))) (v := u 3 (tn (q 6))) rfl (by omega) (by decide) rfl dX0_whySilent_60 ?_
          refine lv_isub hx hb dX0_whySilent_61 ?_
          refine lv_aload_n hx hb dX0_whySilent_62 rfl (lv_at hl 2 rfl) ?_
          refine k_getN X hW inG3 rfl 1 (by decide) fln_X0_70 rfl 2 rfl (v := .int (q 1)) rfl dX0_whySilent_63 ?_
          refine lv_icmp_lt (tgt := 73) hx hb dX0_whySilent_66 (by decide) (fun c_10 => ?_) (fun c_10 => ?_)
          · refine lv_iconst (v := nI 0) hx hb dX0_whySilent_73 (by decide +kernel) ?_
            refine lv_istore_n (lv' := [(3, .int (nI 0)), (2, .int (nI 0)), (0, .ref (a 0)), (1, .ref b)]) hx hb dX0_whySilent_74 rfl hl (by decide) rfl (fun ls hl => ?_)
            refine lv_iload_n hx hb dX0_whySilent_75 rfl (lv_at hl 1 rfl) ?_
            refine lv_if_ne (tgt := 83) hx hb dX0_whySilent_76 (by decide) (fun c => absurd (by decide +kernel) c) (fun _ => ?_)
            refine lv_iload_n hx hb dX0_whySilent_79 rfl (lv_at hl 0 rfl) ?_
            refine lv_if_eq (tgt := 87) hx hb dX0_whySilent_80 (by decide) (fun _ => ?_) (fun c => absurd (by decide +kernel) c)
            refine lv_iconst (v := nI 4) hx hb dX0_whySilent_87 (by decide +kernel) ?_
            exact hQ _ _ _ _ _ _ hW dX0_whySilent_88 (by subst hz_5; subst hz_1; rw [m_X0_whySilent_r, if_pos c_3, if_pos c_4, if_neg c_7, if_pos c_9, if_pos c_10]) rfl
          · refine lv_iconst (v := nI 1) hx hb dX0_whySilent_69 (by decide +kernel) ?_
            refine lv_goto (tgt := 74) hx hb dX0_whySilent_70 (by decide) ?_
            refine lv_istore_n (lv' := [(3, .int (nI 1)), (2, .int (nI 0)), (0, .ref (a 0)), (1, .ref b)]) hx hb dX0_whySilent_74 rfl hl (by decide) rfl (fun ls hl => ?_)
            refine lv_iload_n hx hb dX0_whySilent_75 rfl (lv_at hl 1 rfl) ?_
            refine lv_if_ne (tgt := 83) hx hb dX0_whySilent_76 (by decide) (fun c => absurd (by decide +kernel) c) (fun _ => ?_)
            refine lv_iload_n hx hb dX0_whySilent_79 rfl (lv_at hl 0 rfl) ?_
            refine lv_if_eq (tgt := 87) hx hb dX0_whySilent_80 (by decide) (fun c => absurd c (by decide +kernel)) (fun _ => ?_)
            refine lv_iconst (v := nI 0) hx hb dX0_whySilent_83 (by decide +kernel) ?_
            refine lv_goto (tgt := 88) hx hb dX0_whySilent_84 (by decide) ?_
            exact hQ _ _ _ _ _ _ hW dX0_whySilent_88 (by subst hz_5; subst hz_1; rw [m_X0_whySilent_r, if_pos c_3, if_pos c_4, if_neg c_7, if_pos c_9, if_neg c_10]) rfl
        · refine lv_iconst (v := nI 1) hx hb dX0_whySilent_42 (by decide +kernel) ?_
          refine lv_goto (tgt := 47) hx hb dX0_whySilent_43 (by decide) ?_
          refine lv_istore_n (lv' := [(2, .int (nI 1)), (0, .ref (a 0)), (1, .ref b)]) hx hb dX0_whySilent_47 rfl hl (by decide) rfl (fun ls hl => ?_)
          refine lv_aload_n hx hb dX0_whySilent_48 rfl (lv_at hl 1 rfl) ?_
          refine k_get X hW inG0 rfl 2 (by decide) fl_X0_24 rfl 0 rfl (v := .int (u 0 2)) rfl dX0_whySilent_49 ?_
          refine lv_aload_n hx hb dX0_whySilent_52 rfl (lv_at hl 1 rfl) ?_
          refine k_get X hW inG0 rfl 5 (by decide) fl_X0_34 rfl 0 rfl (v := .ref (a 4)) rfl dX0_whySilent_53 ?_
          refine lv_aload_n hx hb dX0_whySilent_56 rfl (lv_at hl 2 rfl) ?_
          refine k_getN X hW inG3 rfl 6 (by decide) fln_X0_82 rfl 2 rfl (v := .int (q 6)) rfl dX0_whySilent_57 ?_
          refine k_top (y := nI (tn (q 6))) (hi_8) ?_
          refine k_iald X hW 1 rfl (j := (tn (q 6))) (v := u 3 (tn (q 6))) rfl (by omega) (by decide) rfl dX0_whySilent_60 ?_
          refine lv_isub hx hb dX0_whySilent_61 ?_
          refine lv_aload_n hx hb dX0_whySilent_62 rfl (lv_at hl 2 rfl) ?_
          refine k_getN X hW inG3 rfl 1 (by decide) fln_X0_70 rfl 2 rfl (v := .int (q 1)) rfl dX0_whySilent_63 ?_
          refine lv_icmp_lt (tgt := 73) hx hb dX0_whySilent_66 (by decide) (fun c_15 => ?_) (fun c_15 => ?_)
          · refine lv_iconst (v := nI 0) hx hb dX0_whySilent_73 (by decide +kernel) ?_
            refine lv_istore_n (lv' := [(3, .int (nI 0)), (2, .int (nI 1)), (0, .ref (a 0)), (1, .ref b)]) hx hb dX0_whySilent_74 rfl hl (by decide) rfl (fun ls hl => ?_)
            refine lv_iload_n hx hb dX0_whySilent_75 rfl (lv_at hl 1 rfl) ?_
            refine lv_if_ne (tgt := 83) hx hb dX0_whySilent_76 (by decide) (fun _ => ?_) (fun c => absurd c (by decide +kernel))
            refine lv_iconst (v := nI 0) hx hb dX0_whySilent_83 (by decide +kernel) ?_
            refine lv_goto (tgt := 88) hx hb dX0_whySilent_84 (by decide) ?_
            exact hQ _ _ _ _ _ _ hW dX0_whySilent_88 (by subst hz_5; subst hz_1; rw [m_X0_whySilent_r, if_pos c_3, if_pos c_4, if_neg c_7, if_neg c_9, if_pos c_15]) rfl
          · refine lv_iconst (v := nI 1) hx hb dX0_whySilent_69 (by decide +kernel) ?_
            refine lv_goto (tgt := 74) hx hb dX0_whySilent_70 (by decide) ?_
            refine lv_istore_n (lv' := [(3, .int (nI 1)), (2, .int (nI 1)), (0, .ref (a 0)), (1, .ref b)]) hx hb dX0_whySilent_74 rfl hl (by decide) rfl (fun ls hl => ?_)
            refine lv_iload_n hx hb dX0_whySilent_75 rfl (lv_at hl 1 rfl) ?_
            refine lv_if_ne (tgt := 83) hx hb dX0_whySilent_76 (by decide) (fun _ => ?_) (fun c => absurd c (by decide +kernel))
            refine lv_iconst (v := nI 0) hx hb dX0_whySilent_83 (by decide +kernel) ?_
            refine lv_goto (tgt := 88) hx hb dX0_whySilent_84 (by decide) ?_
            exact hQ _ _ _ _ _ _ hW dX0_whySilent_88 (by subst hz_5; subst hz_1; rw [m_X0_whySilent_r, if_pos c_3, if_pos c_4, if_neg c_7, if_neg c_9, if_neg c_15]) rfl
      · refine lv_iconst (v := nI 3) hx hb dX0_whySilent_29 (by decide +kernel) ?_
        exact hQ _ _ _ _ _ _ hW dX0_whySilent_30 (by subst hz_5; subst hz_1; rw [m_X0_whySilent_r, if_pos c_3, if_pos c_4, if_pos c_7]) rfl
    · refine lv_iconst (v := nI 2) hx hb dX0_whySilent_16 (by decide +kernel) ?_
      exact hQ _ _ _ _ _ _ hW dX0_whySilent_17 (by subst hz_1; rw [m_X0_whySilent_r, if_pos c_3, if_neg c_4]) rfl
  · refine lv_iconst (v := nI 1) hx hb dX0_whySilent_7 (by decide +kernel) ?_
    exact hQ _ _ _ _ _ _ hW dX0_whySilent_8 (by subst hz_1; rw [m_X0_whySilent_r, if_neg c_3]) rfl
def lp_srch (how flow : Nat → Int32) (num : Int32) : Nat → Nat → Int32
  | 0, _ => (-6)
  | r + 1, i => if how i = 0 then (if flow i - flow i / nI 3 * nI 3 = num then nI i else lp_srch how flow num r (i + 1)) else lp_srch how flow num r (i + 1)
def m_X0_takeOldest_u4 (u : CS) (q : Nat → Int32) : Nat → Int32 := upd (u 4) (tn (q 6)) (nI 1)
def m_X0_takeOldest_u5 (u : CS) (q : Nat → Int32) : Nat → Int32 := upd (u 5) (tn (q 6)) (u 0 2)
def m_X0_takeOldest_q (u : CS) (q : Nat → Int32) (num : Int32) : Nat → Int32 := upd (m_X3_noteTaken_q q ((u 0 2) - (u 3 (tn (q 6))))) 6 (lp_srch (upd (u 4) (tn (q 6)) (nI 1)) (u 2) num (cn u - (tn (q 6) + 1)) (tn (q 6) + 1))
set_option maxHeartbeats 4000000 in
set_option maxRecDepth 100000 in
theorem c_X0_takeOldest (l : Launch) (D : va_G) (k : Nat → ClassId) (a : Nat → Nat) (b : Nat) (u : CS) (q : Nat → Int32) (num : Int32) (hc : CM u) (ho : q 6 = nI (tn (q 6))) (ho2 : tn (q 6) < cn u) : mV l yX0_takeOldest (wsY yX0_takeOldest cX0_takeOldest 5 none) 2 D k [.ref (a 0), .ref b, .int num] [cO a u, cFl k a u, cCa k a u, cHo k a u, cTa k a u, qC b q] [cO a (st2 (st2 u 4 (m_X0_takeOldest_u4 u q)) 5 (m_X0_takeOldest_u5 u q)), cFl k a (st2 (st2 u 4 (m_X0_takeOldest_u4 u q)) 5 (m_X0_takeOldest_u5 u q)), cCa k a (st2 (st2 u 4 (m_X0_takeOldest_u4 u q)) 5 (m_X0_takeOldest_u5 u q)), cHo k a (st2 (st2 u 4 (m_X0_takeOldest_u4 u q)) 5 (m_X0_takeOldest_u5 u q)), cTa k a (st2 (st2 u 4 (m_X0_takeOldest_u4 u q)) 5 (m_X0_takeOldest_u5 u q)), qC b (m_X0_takeOldest_q u q num)] := by
  refine mV_intro rfl (Nat.le_of_ble_eq_true rfl) ?_
  intro p e s m args below meth c A Q ls X hW hl hQ
  have hx := X.hx
  have hb := X.hb
  have hl : lv_has ls 5 [(0, .ref (a 0)), (1, .ref b), (2, .int num)] := hl
  have hc4 := hc.2.1
  refine lv_aload_n hx hb dX0_takeOldest_0 rfl (lv_at hl 1 rfl) ?_
  refine k_getN X hW inG3 rfl 6 (by decide) fln_X0_82 rfl 5 rfl (v := .int (q 6)) rfl dX0_takeOldest_1 ?_
  refine k_top (y := nI (tn (q 6))) (ho) ?_
  refine lv_istore_n (lv' := [(3, .int (nI (tn (q 6)))), (0, .ref (a 0)), (1, .ref b), (2, .int num)]) hx hb dX0_takeOldest_4 rfl hl (by decide) rfl (fun ls hl => ?_)
  refine lv_aload_n hx hb dX0_takeOldest_5 rfl (lv_at hl 1 rfl) ?_
  refine k_get X hW inG0 rfl 6 (by decide) fl_X0_37 rfl 0 rfl (v := .ref (a 5)) rfl dX0_takeOldest_6 ?_
  refine lv_iload_n hx hb dX0_takeOldest_9 rfl (lv_at hl 0 rfl) ?_
  refine lv_iconst (v := nI 1) hx hb dX0_takeOldest_10 (by decide +kernel) ?_
  refine k_iast X hW 3 rfl (j := (tn (q 6))) rfl (by omega) (by decide) dX0_takeOldest_11 (w' := [cO a (st2 u 4 (upd (u 4) (tn (q 6)) (nI 1))), cFl k a (st2 u 4 (upd (u 4) (tn (q 6)) (nI 1))), cCa k a (st2 u 4 (upd (u 4) (tn (q 6)) (nI 1))), cHo k a (st2 u 4 (upd (u 4) (tn (q 6)) (nI 1))), cTa k a (st2 u 4 (upd (u 4) (tn (q 6)) (nI 1))), qC b q]) rfl (fun H locs hW => ?_)
  refine lv_aload_n hx hb dX0_takeOldest_12 rfl (lv_at hl 1 rfl) ?_
  refine k_get X hW inG0 rfl 7 (by decide) fl_X0_40 rfl 0 rfl (v := .ref (a 6)) rfl dX0_takeOldest_13 ?_
  refine lv_iload_n hx hb dX0_takeOldest_16 rfl (lv_at hl 0 rfl) ?_
  refine lv_aload_n hx hb dX0_takeOldest_17 rfl (lv_at hl 1 rfl) ?_
  refine k_get X hW inG0 rfl 2 (by decide) fl_X0_24 rfl 0 rfl (v := .int (u 0 2)) rfl dX0_takeOldest_18 ?_
  refine k_iast X hW 4 rfl (j := (tn (q 6))) rfl (by omega) (by decide) dX0_takeOldest_21 (w' := [cO a (st2 (st2 u 4 (upd (u 4) (tn (q 6)) (nI 1))) 5 (upd (u 5) (tn (q 6)) (u 0 2))), cFl k a (st2 (st2 u 4 (upd (u 4) (tn (q 6)) (nI 1))) 5 (upd (u 5) (tn (q 6)) (u 0 2))), cCa k a (st2 (st2 u 4 (upd (u 4) (tn (q 6)) (nI 1))) 5 (upd (u 5) (tn (q 6)) (u 0 2))), cHo k a (st2 (st2 u 4 (upd (u 4) (tn (q 6)) (nI 1))) 5 (upd (u 5) (tn (q 6)) (u 0 2))), cTa k a (st2 (st2 u 4 (upd (u 4) (tn (q 6)) (nI 1))) 5 (upd (u 5) (tn (q 6)) (u 0 2))), qC b q]) rfl (fun H locs hW => ?_)
  refine lv_aload_n hx hb dX0_takeOldest_22 rfl (lv_at hl 2 rfl) ?_
  refine lv_aload_n hx hb dX0_takeOldest_23 rfl (lv_at hl 1 rfl) ?_
  refine k_get X hW inG0 rfl 2 (by decide) fl_X0_24 rfl 0 rfl (v := .int (u 0 2)) rfl dX0_takeOldest_24 ?_
  refine lv_aload_n hx hb dX0_takeOldest_27 rfl (lv_at hl 1 rfl) ?_
  refine k_get X hW inG0 rfl 5 (by decide) fl_X0_34 rfl 0 rfl (v := .ref (a 4)) rfl dX0_takeOldest_28 ?_
  refine lv_iload_n hx hb dX0_takeOldest_31 rfl (lv_at hl 0 rfl) ?_
  refine k_iald X hW 2 rfl (j := (tn (q 6))) (v := u 3 (tn (q 6))) rfl (by omega) (by decide) rfl dX0_takeOldest_32 ?_
  refine lv_isub hx hb dX0_takeOldest_33 ?_
  obtain ⟨z_1, hz_1⟩ : ∃ z, m_X3_noteTaken_q q ((u 0 2) - (u 3 (tn (q 6)))) = z := ⟨_, rfl⟩
  have hM_2 := (c_X3_noteTaken l D k b q ((u 0 2) - (u 3 (tn (q 6)))))
  rw [hz_1] at hM_2
  refine kNv (As := [.int ((u 0 2) - (u 3 (tn (q 6))))]) (rest := []) X hW hM_2 yw_X3_noteTaken lkn_X0_134 ⟨Nat.le_of_ble_eq_true rfl, Nat.le_of_ble_eq_true rfl⟩ (wr := [cO a (st2 (st2 u 4 (upd (u 4) (tn (q 6)) (nI 1))) 5 (upd (u 5) (tn (q 6)) (u 0 2))), cFl k a (st2 (st2 u 4 (upd (u 4) (tn (q 6)) (nI 1))) 5 (upd (u 5) (tn (q 6)) (u 0 2))), cCa k a (st2 (st2 u 4 (upd (u 4) (tn (q 6)) (nI 1))) 5 (upd (u 5) (tn (q 6)) (u 0 2))), cHo k a (st2 (st2 u 4 (upd (u 4) (tn (q 6)) (nI 1))) 5 (upd (u 5) (tn (q 6)) (u 0 2))), cTa k a (st2 (st2 u 4 (upd (u 4) (tn (q 6)) (nI 1))) 5 (upd (u 5) (tn (q 6)) (u 0 2)))]) (w_idx (n := 6) [0, 1, 2, 3, 4, 5] rfl (by decide) rfl) (w' := [cO a (st2 (st2 u 4 (upd (u 4) (tn (q 6)) (nI 1))) 5 (upd (u 5) (tn (q 6)) (u 0 2))), cFl k a (st2 (st2 u 4 (upd (u 4) (tn (q 6)) (nI 1))) 5 (upd (u 5) (tn (q 6)) (u 0 2))), cCa k a (st2 (st2 u 4 (upd (u 4) (tn (q 6)) (nI 1))) 5 (upd (u 5) (tn (q 6)) (u 0 2))), cHo k a (st2 (st2 u 4 (upd (u 4) (tn (q 6)) (nI 1))) 5 (upd (u 5) (tn (q 6)) (u 0 2))), cTa k a (st2 (st2 u 4 (upd (u 4) (tn (q 6)) (nI 1))) 5 (upd (u 5) (tn (q 6)) (u 0 2))), qC b z_1]) (w_idx (n := 6) [0, 1, 2, 3, 4, 5] rfl (by decide) rfl) (k_rcv X hW (ci := 3) (q0 := 5) rfl rfl) rfl hl.1 rfl (Nat.le_of_ble_eq_true rfl) ⟨Nat.zero_le _, Nat.zero_le _⟩ dX0_takeOldest_34 (fun H locs hW => ?_)
  refine lv_aload_n hx hb dX0_takeOldest_37 rfl (lv_at hl 2 rfl) ?_
  refine lv_bipush (v := (-6)) hx hb dX0_takeOldest_38 (by decide +kernel) ?_
  refine k_putN X hW inG3 rfl tyX3_ok nmX3 6 (by decide) fln_X0_82 rfl rfl 5 rfl rfl rfl (Nat.le_of_ble_eq_true rfl) dX0_takeOldest_40 (w' := [cO a (st2 (st2 u 4 (upd (u 4) (tn (q 6)) (nI 1))) 5 (upd (u 5) (tn (q 6)) (u 0 2))), cFl k a (st2 (st2 u 4 (upd (u 4) (tn (q 6)) (nI 1))) 5 (upd (u 5) (tn (q 6)) (u 0 2))), cCa k a (st2 (st2 u 4 (upd (u 4) (tn (q 6)) (nI 1))) 5 (upd (u 5) (tn (q 6)) (u 0 2))), cHo k a (st2 (st2 u 4 (upd (u 4) (tn (q 6)) (nI 1))) 5 (upd (u 5) (tn (q 6)) (u 0 2))), cTa k a (st2 (st2 u 4 (upd (u 4) (tn (q 6)) (nI 1))) 5 (upd (u 5) (tn (q 6)) (u 0 2))), qC b (upd z_1 6 (-6))]) rfl (fun H locs hW => ?_)
  refine lv_iload_n hx hb dX0_takeOldest_43 rfl (lv_at hl 0 rfl) ?_
  refine lv_iconst (v := nI 1) hx hb dX0_takeOldest_44 (by decide +kernel) ?_
  refine lv_iadd hx hb dX0_takeOldest_45 ?_
  refine k_top (y := nI (tn (q 6) + 1)) (nI_add _ _) ?_
  refine lv_istore (lv' := [(4, .int (nI (tn (q 6) + 1))), (3, .int (nI (tn (q 6)))), (0, .ref (a 0)), (1, .ref b), (2, .int num)]) hx hb dX0_takeOldest_46 hl (by decide) rfl (fun ls hl => ?_)
  have hl0 := hl
  have lp : ∀ (r i : Nat) (H : Heap) (locs : List Loc) (ls : Array Slot), i + r = cn u → KW D A s [cO a (st2 (st2 u 4 (upd (u 4) (tn (q 6)) (nI 1))) 5 (upd (u 5) (tn (q 6)) (u 0 2))), cFl k a (st2 (st2 u 4 (upd (u 4) (tn (q 6)) (nI 1))) 5 (upd (u 5) (tn (q 6)) (u 0 2))), cCa k a (st2 (st2 u 4 (upd (u 4) (tn (q 6)) (nI 1))) 5 (upd (u 5) (tn (q 6)) (u 0 2))), cHo k a (st2 (st2 u 4 (upd (u 4) (tn (q 6)) (nI 1))) 5 (upd (u 5) (tn (q 6)) (u 0 2))), cTa k a (st2 (st2 u 4 (upd (u 4) (tn (q 6)) (nI 1))) 5 (upd (u 5) (tn (q 6)) (u 0 2))), qC b (upd z_1 6 (-6))] H locs → lv_has ls 5 [(4, .int (nI i)), (3, .int (nI (tn (q 6)))), (0, .ref (a 0)), (1, .ref b), (2, .int num)] → m_X0_takeOldest_q u q num = upd z_1 6 (lp_srch (upd (u 4) (tn (q 6)) (nI 1)) (u 2) num r i) → W p l e (rmD 2) s m args below meth c H locs 0 0 Q (F0 m 48 ls []) := by
    intro r
    induction r with
    | zero =>
      intro i H locs ls hir hW hl hfin
      refine lv_iload hx hb dX0_takeOldest_48 (lv_at hl 0 rfl) ?_
      refine lv_aload_n hx hb dX0_takeOldest_50 rfl (lv_at hl 2 rfl) ?_
      refine k_get X hW inG0 rfl 3 (by decide) fl_X0_28 rfl 0 rfl (v := .int (u 0 3)) rfl dX0_takeOldest_51 ?_
      refine k_top (y := nI (cn u)) (hc.1) ?_
      refine lv_icmp_ge (tgt := 101) hx hb dX0_takeOldest_54 (by decide) (fun c_3 => ?_) (fun c_3 => ?_)
      · have c_3 : cn u ≤ i := (nI_leI (by omega) (by omega)).mp c_3
        exact hQ _ _ _ _ _ hW dX0_takeOldest_101 (by rw [hfin, lp_srch]; try rfl)
      · have c_3 : ¬ (cn u ≤ i) := fun h => c_3 ((nI_leI (by omega) (by omega)).mpr h)
        omega
    | succ r ih =>
      intro i H locs ls hir hW hl hfin
      refine lv_iload hx hb dX0_takeOldest_48 (lv_at hl 0 rfl) ?_
      refine lv_aload_n hx hb dX0_takeOldest_50 rfl (lv_at hl 2 rfl) ?_
      refine k_get X hW inG0 rfl 3 (by decide) fl_X0_28 rfl 0 rfl (v := .int (u 0 3)) rfl dX0_takeOldest_51 ?_
      refine k_top (y := nI (cn u)) (hc.1) ?_
      refine lv_icmp_ge (tgt := 101) hx hb dX0_takeOldest_54 (by decide) (fun c_4 => ?_) (fun c_4 => ?_)
      · have c_4 : cn u ≤ i := (nI_leI (by omega) (by omega)).mp c_4
        omega
      · have c_4 : ¬ (cn u ≤ i) := fun h => c_4 ((nI_leI (by omega) (by omega)).mpr h)
        refine lv_aload_n hx hb dX0_takeOldest_57 rfl (lv_at hl 3 rfl) ?_
        refine k_getN X hW inG3 rfl 6 (by decide) fln_X0_82 rfl 5 rfl (v := .int (-6)) rfl dX0_takeOldest_58 ?_
        refine lv_bipush (v := (-6)) hx hb dX0_takeOldest_61 (by decide +kernel) ?_
        refine lv_icmp_ne (tgt := 101) hx hb dX0_takeOldest_63 (by decide) (fun c => absurd (by decide +kernel) c) (fun _ => ?_)
        refine lv_aload_n hx hb dX0_takeOldest_66 rfl (lv_at hl 2 rfl) ?_
        refine k_get X hW inG0 rfl 6 (by decide) fl_X0_37 rfl 0 rfl (v := .ref (a 5)) rfl dX0_takeOldest_67 ?_
        refine lv_iload hx hb dX0_takeOldest_70 (lv_at hl 0 rfl) ?_
        refine k_iald X hW 3 rfl (j := i) (v := upd (u 4) (tn (q 6)) (nI 1) i) rfl (by omega) (by decide) rfl dX0_takeOldest_72 ?_
        refine lv_if_ne (tgt := 95) hx hb dX0_takeOldest_73 (by decide) (fun c_6 => ?_) (fun c_6 => ?_)
        · refine lv_iinc (v := nI (i + 1)) (lv' := [(4, .int (nI (i + 1))), (3, .int (nI (tn (q 6)))), (0, .ref (a 0)), (1, .ref b), (2, .int num)]) hx hb dX0_takeOldest_95 hl (k := 0) rfl (k_inc _) (by decide) rfl (fun ls hl => ?_)
          refine lv_goto (tgt := 48) hx hb dX0_takeOldest_98 (by decide) ?_
          exact ih (i + 1) _ _ _ (by omega) hW (lv_sub hl [0, 1, 2, 3, 4] rfl) (by rw [hfin, lp_srch, if_neg c_6])
        · refine lv_aload_n hx hb dX0_takeOldest_76 rfl (lv_at hl 2 rfl) ?_
          refine k_get X hW inG0 rfl 4 (by decide) fl_X0_31 rfl 0 rfl (v := .ref (a 3)) rfl dX0_takeOldest_77 ?_
          refine lv_iload hx hb dX0_takeOldest_80 (lv_at hl 0 rfl) ?_
          refine k_iald X hW 1 rfl (j := i) (v := u 2 i) rfl (by omega) (by decide) rfl dX0_takeOldest_82 ?_
          refine lv_iconst (v := nI 3) hx hb dX0_takeOldest_83 (by decide +kernel) ?_
          refine lv_irem hx hb dX0_takeOldest_84 (by decide +kernel) ?_
          refine lv_iload_n hx hb dX0_takeOldest_85 rfl (lv_at hl 4 rfl) ?_
          refine lv_icmp_ne (tgt := 95) hx hb dX0_takeOldest_86 (by decide) (fun c_7 => ?_) (fun c_7 => ?_)
          · refine lv_iinc (v := nI (i + 1)) (lv' := [(4, .int (nI (i + 1))), (3, .int (nI (tn (q 6)))), (0, .ref (a 0)), (1, .ref b), (2, .int num)]) hx hb dX0_takeOldest_95 hl (k := 0) rfl (k_inc _) (by decide) rfl (fun ls hl => ?_)
            refine lv_goto (tgt := 48) hx hb dX0_takeOldest_98 (by decide) ?_
            exact ih (i + 1) _ _ _ (by omega) hW (lv_sub hl [0, 1, 2, 3, 4] rfl) (by rw [hfin, lp_srch, if_pos c_6, if_neg c_7])
          · refine lv_aload_n hx hb dX0_takeOldest_89 rfl (lv_at hl 3 rfl) ?_
            refine lv_iload hx hb dX0_takeOldest_90 (lv_at hl 0 rfl) ?_
            refine k_putN X hW inG3 rfl tyX3_ok nmX3 6 (by decide) fln_X0_82 rfl rfl 5 rfl rfl rfl (Nat.le_of_ble_eq_true rfl) dX0_takeOldest_92 (w' := [cO a (st2 (st2 u 4 (upd (u 4) (tn (q 6)) (nI 1))) 5 (upd (u 5) (tn (q 6)) (u 0 2))), cFl k a (st2 (st2 u 4 (upd (u 4) (tn (q 6)) (nI 1))) 5 (upd (u 5) (tn (q 6)) (u 0 2))), cCa k a (st2 (st2 u 4 (upd (u 4) (tn (q 6)) (nI 1))) 5 (upd (u 5) (tn (q 6)) (u 0 2))), cHo k a (st2 (st2 u 4 (upd (u 4) (tn (q 6)) (nI 1))) 5 (upd (u 5) (tn (q 6)) (u 0 2))), cTa k a (st2 (st2 u 4 (upd (u 4) (tn (q 6)) (nI 1))) 5 (upd (u 5) (tn (q 6)) (u 0 2))), qC b (upd z_1 6 (nI i))]) rfl (fun H locs hW => ?_)
            refine lv_iinc (v := nI (i + 1)) (lv' := [(4, .int (nI (i + 1))), (3, .int (nI (tn (q 6)))), (0, .ref (a 0)), (1, .ref b), (2, .int num)]) hx hb dX0_takeOldest_95 hl (k := 0) rfl (k_inc _) (by decide) rfl (fun ls hl => ?_)
            refine lv_goto (tgt := 48) hx hb dX0_takeOldest_98 (by decide) ?_
            refine lv_iload hx hb dX0_takeOldest_48 (lv_at hl 0 rfl) ?_
            refine lv_aload_n hx hb dX0_takeOldest_50 rfl (lv_at hl 2 rfl) ?_
            refine k_get X hW inG0 rfl 3 (by decide) fl_X0_28 rfl 0 rfl (v := .int (u 0 3)) rfl dX0_takeOldest_51 ?_
            refine k_top (y := nI (cn u)) (hc.1) ?_
            refine lv_icmp_ge (tgt := 101) hx hb dX0_takeOldest_54 (by decide) (fun c_8 => ?_) (fun c_8 => ?_)
            · have c_8 : cn u ≤ i + 1 := (nI_leI (by omega) (by omega)).mp c_8
              exact hQ _ _ _ _ _ hW dX0_takeOldest_101 (by rw [hfin, lp_srch, if_pos c_6, if_pos c_7]; try rfl)
            · have c_8 : ¬ (cn u ≤ i + 1) := fun h => c_8 ((nI_leI (by omega) (by omega)).mpr h)
              refine lv_aload_n hx hb dX0_takeOldest_57 rfl (lv_at hl 3 rfl) ?_
              refine k_getN X hW inG3 rfl 6 (by decide) fln_X0_82 rfl 5 rfl (v := .int (nI i)) rfl dX0_takeOldest_58 ?_
              refine lv_bipush (v := (-6)) hx hb dX0_takeOldest_61 (by decide +kernel) ?_
              refine lv_icmp_ne (tgt := 101) hx hb dX0_takeOldest_63 (by decide) (fun _ => ?_) (fun c => absurd c (k_neg (by omega) (by decide +kernel)))
              exact hQ _ _ _ _ _ hW dX0_takeOldest_101 (by rw [hfin, lp_srch, if_pos c_6, if_pos c_7]; try rfl)
  exact lp (cn u - (tn (q 6) + 1)) (tn (q 6) + 1) _ _ _ (by omega) hW (lv_sub hl [0, 1, 2, 3, 4] rfl) (by subst hz_1; rfl)
end
section
def m_take_0 (u : CS) : CS := st2 (st2 (st2 u 4 (m_X0_takeOldest_u4 u (u 6))) 5 (m_X0_takeOldest_u5 u (u 6))) 6 (m_X0_takeOldest_q u (u 6) (nI 0))
def lp_poll_0 : Nat → CS → CS
  | 0, u => u
  | r + 1, u => if m_X0_hasFrame_r u (u 6 6) = 0 then u else lp_poll_0 r (m_take_0 u)
def lp_pollN_0 : Nat → CS → Nat
  | 0, _ => 0
  | r + 1, u => if m_X0_hasFrame_r u (u 6 6) = 0 then 0 else 1 + lp_pollN_0 r (m_take_0 u)
theorem lp_poll_0_01 : ∀ (r : Nat) (u : CS), lp_poll_0 r u 0 = u 0 ∧ lp_poll_0 r u 1 = u 1 := by
  intro r
  induction r with
  | zero => intro u; exact ⟨rfl, rfl⟩
  | succ r ih =>
    intro u
    rw [lp_poll_0]
    split
    · exact ⟨rfl, rfl⟩
    · exact ih (m_take_0 u)
def m_take_1 (u : CS) : CS := st2 (st2 (st2 u 4 (m_X0_takeOldest_u4 u (u 7))) 5 (m_X0_takeOldest_u5 u (u 7))) 7 (m_X0_takeOldest_q u (u 7) (nI 1))
def lp_poll_1 : Nat → CS → CS
  | 0, u => u
  | r + 1, u => if m_X0_hasFrame_r u (u 7 6) = 0 then u else lp_poll_1 r (m_take_1 u)
def lp_pollN_1 : Nat → CS → Nat
  | 0, _ => 0
  | r + 1, u => if m_X0_hasFrame_r u (u 7 6) = 0 then 0 else 1 + lp_pollN_1 r (m_take_1 u)
theorem lp_poll_1_01 : ∀ (r : Nat) (u : CS), lp_poll_1 r u 0 = u 0 ∧ lp_poll_1 r u 1 = u 1 := by
  intro r
  induction r with
  | zero => intro u; exact ⟨rfl, rfl⟩
  | succ r ih =>
    intro u
    rw [lp_poll_1]
    split
    · exact ⟨rfl, rfl⟩
    · exact ih (m_take_1 u)
def m_take_2 (u : CS) : CS := st2 (st2 (st2 u 4 (m_X0_takeOldest_u4 u (u 8))) 5 (m_X0_takeOldest_u5 u (u 8))) 8 (m_X0_takeOldest_q u (u 8) (nI 2))
def lp_poll_2 : Nat → CS → CS
  | 0, u => u
  | r + 1, u => if m_X0_hasFrame_r u (u 8 6) = 0 then u else lp_poll_2 r (m_take_2 u)
def lp_pollN_2 : Nat → CS → Nat
  | 0, _ => 0
  | r + 1, u => if m_X0_hasFrame_r u (u 8 6) = 0 then 0 else 1 + lp_pollN_2 r (m_take_2 u)
theorem lp_poll_2_01 : ∀ (r : Nat) (u : CS), lp_poll_2 r u 0 = u 0 ∧ lp_poll_2 r u 1 = u 1 := by
  intro r
  induction r with
  | zero => intro u; exact ⟨rfl, rfl⟩
  | succ r ih =>
    intro u
    rw [lp_poll_2]
    split
    · exact ⟨rfl, rfl⟩
    · exact ih (m_take_2 u)
def m_pollrest_0_r (u1 : CS) (t : Nat) : Int32 := if (m_X0_leaveRow_0_u u1) 1 1 ≤ nI t then nI t else if (m_X0_leaveRow_0_u u1) 1 2 = nI 1 then nI t else nI t
def m_pollrest_0_u1 (u1 : CS) (t : Nat) : CS := if (m_X0_leaveRow_0_u u1) 1 1 ≤ nI t then st2 (m_X0_leaveRow_0_u u1) 6 (upd ((m_X0_leaveRow_0_u u1) 6) 3 (m_X0_rowLength_r (m_X0_leaveRow_0_u u1))) else if (m_X0_leaveRow_0_u u1) 1 2 = nI 1 then st2 (m_X0_leaveRow_0_u u1) 6 (m_X3_becomeIdle_q ((m_X0_leaveRow_0_u u1) 6) (nI 1)) else st2 (m_X0_leaveRow_0_u u1) 6 (m_X3_becomeIdle_q ((m_X0_leaveRow_0_u u1) 6) (nI 0))
def m_pollrest_1_r (u1 : CS) (t : Nat) : Int32 := if (m_X0_leaveRow_1_u u1) 1 1 ≤ nI t then nI t else if (m_X0_leaveRow_1_u u1) 1 2 = nI 1 then nI t else nI t
def m_pollrest_1_u1 (u1 : CS) (t : Nat) : CS := if (m_X0_leaveRow_1_u u1) 1 1 ≤ nI t then st2 (m_X0_leaveRow_1_u u1) 7 (upd ((m_X0_leaveRow_1_u u1) 7) 3 (m_X0_rowLength_r (m_X0_leaveRow_1_u u1))) else if (m_X0_leaveRow_1_u u1) 1 2 = nI 1 then st2 (m_X0_leaveRow_1_u u1) 7 (m_X3_becomeIdle_q ((m_X0_leaveRow_1_u u1) 7) (nI 1)) else st2 (m_X0_leaveRow_1_u u1) 7 (m_X3_becomeIdle_q ((m_X0_leaveRow_1_u u1) 7) (nI 0))
def m_pollrest_2_r (u1 : CS) (t : Nat) : Int32 := if (m_X0_leaveRow_2_u u1) 1 1 ≤ nI t then nI t else if (m_X0_leaveRow_2_u u1) 1 2 = nI 1 then nI t else nI t
def m_pollrest_2_u1 (u1 : CS) (t : Nat) : CS := if (m_X0_leaveRow_2_u u1) 1 1 ≤ nI t then st2 (m_X0_leaveRow_2_u u1) 8 (upd ((m_X0_leaveRow_2_u u1) 8) 3 (m_X0_rowLength_r (m_X0_leaveRow_2_u u1))) else if (m_X0_leaveRow_2_u u1) 1 2 = nI 1 then st2 (m_X0_leaveRow_2_u u1) 8 (m_X3_becomeIdle_q ((m_X0_leaveRow_2_u u1) 8) (nI 1)) else st2 (m_X0_leaveRow_2_u u1) 8 (m_X3_becomeIdle_q ((m_X0_leaveRow_2_u u1) 8) (nI 0))
def m_X0_poll_r (u : CS) : Int32 := if m_X4_isQueue_r (m_X0_queueAt_r u (nI 0)) = 0 then nI 0 else if m_X0_queueAt_r u (nI 0) = nI 0 then m_pollrest_0_r (lp_poll_0 (tn (u 1 1)) u) (0 + lp_pollN_0 (tn (u 1 1)) u) else if m_X0_queueAt_r u (nI 0) = nI 1 then m_pollrest_1_r (lp_poll_1 (tn (u 1 1)) u) (0 + lp_pollN_1 (tn (u 1 1)) u) else m_pollrest_2_r (lp_poll_2 (tn (u 1 1)) u) (0 + lp_pollN_2 (tn (u 1 1)) u)
def m_X0_poll_u (u : CS) : CS := if m_X4_isQueue_r (m_X0_queueAt_r u (nI 0)) = 0 then u else if m_X0_queueAt_r u (nI 0) = nI 0 then m_pollrest_0_u1 (lp_poll_0 (tn (u 1 1)) u) (0 + lp_pollN_0 (tn (u 1 1)) u) else if m_X0_queueAt_r u (nI 0) = nI 1 then m_pollrest_1_u1 (lp_poll_1 (tn (u 1 1)) u) (0 + lp_pollN_1 (tn (u 1 1)) u) else m_pollrest_2_u1 (lp_poll_2 (tn (u 1 1)) u) (0 + lp_pollN_2 (tn (u 1 1)) u)
set_option maxHeartbeats 4000000 in
set_option maxRecDepth 100000 in
theorem c_X0_poll (l : Launch) (D : va_G) (k : Nat → ClassId) (a : Nat → Nat) (u : CS)  (hc : CM u)  : mI l yX0_poll (wsY yX0_poll cX0_poll 4 (some .int)) 3 D k [.ref (a 0)] (cardW k a u) (cardW k a (m_X0_poll_u u)) (m_X0_poll_r u) := by
  refine mI_intro rfl (Nat.le_of_ble_eq_true rfl) (Or.inl rfl) ?_
  intro p e s m args below meth c A Q ls X hW hl hQ
  have hx := X.hx
  have hb := X.hb
  have hl : lv_has ls 4 [(0, .ref (a 0))] := hl
  have hc4 := hc.2.1
  refine lv_aload_n hx hb dX0_poll_0 rfl (lv_at hl 0 rfl) ?_
  refine lv_iconst (v := nI 0) hx hb dX0_poll_1 (by decide +kernel) ?_
  obtain ⟨z_1, hz_1⟩ : ∃ z, m_X0_queueAt_r u (nI 0) = z := ⟨_, rfl⟩
  have hM_2 := (c_X0_queueAt l D k a u (nI 0))
  rw [hz_1] at hM_2
  refine kVi (As := [.int (nI 0)]) (rest := []) X hW hM_2 yw_X0_queueAt lk_X0_114 ⟨Nat.le_of_ble_eq_true rfl, Nat.le_of_ble_eq_true rfl⟩ (wr := []) (List.Perm.refl _) (w' := cardW k a u) (List.Perm.refl _) (k_rcv X hW (ci := 0) (q0 := 0) rfl rfl) rfl hl.1 rfl (Nat.le_of_ble_eq_true rfl) ⟨Nat.zero_le _, Nat.zero_le _⟩ dX0_poll_2 (fun H locs hW => ?_)
  refine lv_istore_n (lv' := [(1, .int z_1), (0, .ref (a 0))]) hx hb dX0_poll_5 rfl hl (by decide) rfl (fun ls hl => ?_)
  refine lv_iload_n hx hb dX0_poll_6 rfl (lv_at hl 0 rfl) ?_
  obtain ⟨z_3, hz_3⟩ : ∃ z, m_X4_isQueue_r z_1 = z := ⟨_, rfl⟩
  have hM_4 := (c_X4_isQueue l D k z_1)
  rw [hz_3] at hM_4
  refine kSNi (As := [.int z_1]) (rest := []) X hW hM_4 yw_X4_isQueue lkn_X0_63 ⟨Nat.le_of_ble_eq_true rfl, Nat.le_of_ble_eq_true rfl⟩ rfl hl.1 rfl (Nat.le_of_ble_eq_true rfl) ⟨Nat.zero_le _, Nat.zero_le _⟩ dX0_poll_7 (fun H locs hW => ?_)
  refine lv_if_ne (tgt := 15) hx hb dX0_poll_10 (by decide) (fun c_5 => ?_) (fun c_5 => ?_)
  · refine lv_aload_n hx hb dX0_poll_15 rfl (lv_at hl 1 rfl) ?_
    refine k_get X hW inG0 rfl 1 (by decide) fl_X0_20 rfl 0 rfl (v := .ref (a 2)) rfl dX0_poll_16 ?_
    refine lv_iload_n hx hb dX0_poll_19 rfl (lv_at hl 0 rfl) ?_
    rcases isq3 (x := z_1) (by rw [hz_3]; exact c_5) with h_6 | h_6 | h_6
    · refine k_top (y := nI 0) (h_6) ?_
      refine k_aald X hW 2 1 rfl rfl (j := 0) (b := a 7) rfl (by decide) (by decide) rfl dX0_poll_20 ?_
      refine lv_astore_n (lv' := [(2, .ref (a 7)), (1, .int z_1), (0, .ref (a 0))]) hx hb dX0_poll_21 rfl hl (by decide) rfl (fun ls hl => ?_)
      refine lv_iconst (v := nI 0) hx hb dX0_poll_22 (by decide +kernel) ?_
      refine lv_istore_n (lv' := [(3, .int (nI 0)), (2, .ref (a 7)), (1, .int z_1), (0, .ref (a 0))]) hx hb dX0_poll_23 rfl hl (by decide) rfl (fun ls hl => ?_)
      have hB := hc.2.2.1
      have hB16 := hc.2.2.2
      have kx : ∀ (u1 : CS) (t : Nat) (H : Heap) (locs : List Loc) (ls : Array Slot), u1 1 = u 1 → u1 0 = u 0 → m_X0_poll_r u = m_pollrest_0_r u1 t → m_X0_poll_u u = m_pollrest_0_u1 u1 t → KW D A s (cardW k a u1) H locs → lv_has ls 4 [(3, .int (nI t)), (0, .ref (a 0)), (1, .int (z_1)), (2, .ref (a 7))] → W p l e (rmD 3) s m args below meth c H locs 0 0 Q (F0 m 57 ls []) := by
        intro u1 t H locs ls hu1 hu0 hr hu hW hl
        refine lv_aload_n hx hb dX0_poll_57 rfl (lv_at hl 1 rfl) ?_
        refine lv_aload_n hx hb dX0_poll_58 rfl (lv_at hl 3 rfl) ?_
        obtain ⟨z_7, hz_7⟩ : ∃ z, m_X0_leaveRow_0_u u1 = z := ⟨_, rfl⟩
        have hcm_z_7 : CM z_7 := by rw [← hz_7]; exact CM_X0_leaveRow_0 (CM_of hc hu0 hu1)
        have hM_8 := (c_X0_leaveRow_0 l D k a u1 )
        rw [hz_7] at hM_8
        refine kVv (As := [.ref (a 7)]) (rest := []) X hW hM_8 yw_X0_leaveRow lk_X0_124 ⟨Nat.le_of_ble_eq_true rfl, Nat.le_of_ble_eq_true rfl⟩ (wr := []) (List.Perm.refl _) (w' := cardW k a z_7) (List.Perm.refl _) (k_rcv X hW (ci := 0) (q0 := 0) rfl rfl) rfl hl.1 rfl (Nat.le_of_ble_eq_true rfl) ⟨Nat.zero_le _, Nat.zero_le _⟩ dX0_poll_59 (fun H locs hW => ?_)
        refine lv_iload_n hx hb dX0_poll_62 rfl (lv_at hl 0 rfl) ?_
        refine lv_aload_n hx hb dX0_poll_63 rfl (lv_at hl 1 rfl) ?_
        refine k_get X hW inG0 rfl 0 (by decide) fl_X0_13 rfl 0 rfl (v := .ref (a 1)) rfl dX0_poll_64 ?_
        refine lv_iconst (v := nI 1) hx hb dX0_poll_67 (by decide +kernel) ?_
        refine k_iald X hW 1 rfl (j := 1) (v := z_7 1 1) rfl (by decide) (by decide) rfl dX0_poll_68 ?_
        refine lv_icmp_ge (tgt := 94) hx hb dX0_poll_69 (by decide) (fun c_9 => ?_) (fun c_9 => ?_)
        · refine lv_aload_n hx hb dX0_poll_94 rfl (lv_at hl 3 rfl) ?_
          refine lv_aload_n hx hb dX0_poll_95 rfl (lv_at hl 1 rfl) ?_
          obtain ⟨z_10, hz_10⟩ : ∃ z, m_X0_rowLength_r z_7 = z := ⟨_, rfl⟩
          have hM_11 := (c_X0_rowLength l D k a z_7 )
          rw [hz_10] at hM_11
          refine kVi (As := []) (rest := [.ref (a 7)]) X hW hM_11 yw_X0_rowLength lk_X0_131 ⟨Nat.le_of_ble_eq_true rfl, Nat.le_of_ble_eq_true rfl⟩ (wr := []) (List.Perm.refl _) (w' := cardW k a z_7) (List.Perm.refl _) (k_rcv X hW (ci := 0) (q0 := 0) rfl rfl) rfl hl.1 rfl (Nat.le_of_ble_eq_true rfl) ⟨Nat.zero_le _, Nat.zero_le _⟩ dX0_poll_96 (fun H locs hW => ?_)
          refine k_putN X hW inG3 rfl tyX3_ok nmX3 3 (by decide) fln_X0_96 rfl rfl 7 rfl rfl rfl (Nat.le_of_ble_eq_true rfl) dX0_poll_99 (w' := cardW k a (st2 z_7 6 (upd (z_7 6) 3 z_10))) rfl (fun H locs hW => ?_)
          refine lv_iload_n hx hb dX0_poll_102 rfl (lv_at hl 0 rfl) ?_
          exact hQ _ _ _ _ _ _ hW dX0_poll_103 (by subst hz_10; subst hz_7; subst hz_3; subst hz_1; rw [hr, m_pollrest_0_r, if_pos c_9]) (by subst hz_10; subst hz_7; subst hz_3; subst hz_1; rw [hu, m_pollrest_0_u1, if_pos c_9])
        · refine lv_aload_n hx hb dX0_poll_72 rfl (lv_at hl 3 rfl) ?_
          refine lv_aload_n hx hb dX0_poll_73 rfl (lv_at hl 1 rfl) ?_
          refine k_get X hW inG0 rfl 0 (by decide) fl_X0_13 rfl 0 rfl (v := .ref (a 1)) rfl dX0_poll_74 ?_
          refine lv_iconst (v := nI 2) hx hb dX0_poll_77 (by decide +kernel) ?_
          refine k_iald X hW 1 rfl (j := 2) (v := z_7 1 2) rfl (by decide) (by decide) rfl dX0_poll_78 ?_
          refine lv_iconst (v := nI 1) hx hb dX0_poll_79 (by decide +kernel) ?_
          refine lv_icmp_ne (tgt := 87) hx hb dX0_poll_80 (by decide) (fun c_12 => ?_) (fun c_12 => ?_)
          · refine lv_iconst (v := nI 0) hx hb dX0_poll_87 (by decide +kernel) ?_
            obtain ⟨z_13, hz_13⟩ : ∃ z, m_X3_becomeIdle_q (z_7 6) (nI 0) = z := ⟨_, rfl⟩
            have hM_14 := (c_X3_becomeIdle l D k (a 7) (z_7 6) (nI 0))
            rw [hz_13] at hM_14
            refine kNv (As := [.int (nI 0)]) (rest := []) X hW hM_14 yw_X3_becomeIdle lkn_X0_127 ⟨Nat.le_of_ble_eq_true rfl, Nat.le_of_ble_eq_true rfl⟩ (wr := [cO a z_7, cSe k a z_7, cQs k a, cFl k a z_7, cCa k a z_7, cHo k a z_7, cTa k a z_7, qC (a 8) (z_7 7), qC (a 9) (z_7 8)]) (w_idx (n := 10) [0, 1, 2, 3, 4, 5, 6, 8, 9, 7] rfl (by decide) rfl) (w' := cardW k a (st2 z_7 6 z_13)) (w_idx (n := 10) [0, 1, 2, 3, 4, 5, 6, 9, 7, 8] rfl (by decide) rfl) (k_rcv X hW (ci := 3) (q0 := 7) rfl rfl) rfl hl.1 rfl (Nat.le_of_ble_eq_true rfl) ⟨Nat.zero_le _, Nat.zero_le _⟩ dX0_poll_88 (fun H locs hW => ?_)
            refine lv_goto (tgt := 102) hx hb dX0_poll_91 (by decide) ?_
            refine lv_iload_n hx hb dX0_poll_102 rfl (lv_at hl 0 rfl) ?_
            exact hQ _ _ _ _ _ _ hW dX0_poll_103 (by subst hz_13; subst hz_7; subst hz_3; subst hz_1; rw [hr, m_pollrest_0_r, if_neg c_9, if_neg c_12]) (by subst hz_13; subst hz_7; subst hz_3; subst hz_1; rw [hu, m_pollrest_0_u1, if_neg c_9, if_neg c_12])
          · refine lv_iconst (v := nI 1) hx hb dX0_poll_83 (by decide +kernel) ?_
            refine lv_goto (tgt := 88) hx hb dX0_poll_84 (by decide) ?_
            obtain ⟨z_15, hz_15⟩ : ∃ z, m_X3_becomeIdle_q (z_7 6) (nI 1) = z := ⟨_, rfl⟩
            have hM_16 := (c_X3_becomeIdle l D k (a 7) (z_7 6) (nI 1))
            rw [hz_15] at hM_16
            refine kNv (As := [.int (nI 1)]) (rest := []) X hW hM_16 yw_X3_becomeIdle lkn_X0_127 ⟨Nat.le_of_ble_eq_true rfl, Nat.le_of_ble_eq_true rfl⟩ (wr := [cO a z_7, cSe k a z_7, cQs k a, cFl k a z_7, cCa k a z_7, cHo k a z_7, cTa k a z_7, qC (a 8) (z_7 7), qC (a 9) (z_7 8)]) (w_idx (n := 10) [0, 1, 2, 3, 4, 5, 6, 8, 9, 7] rfl (by decide) rfl) (w' := cardW k a (st2 z_7 6 z_15)) (w_idx (n := 10) [0, 1, 2, 3, 4, 5, 6, 9, 7, 8] rfl (by decide) rfl) (k_rcv X hW (ci := 3) (q0 := 7) rfl rfl) rfl hl.1 rfl (Nat.le_of_ble_eq_true rfl) ⟨Nat.zero_le _, Nat.zero_le _⟩ dX0_poll_88 (fun H locs hW => ?_)
            refine lv_goto (tgt := 102) hx hb dX0_poll_91 (by decide) ?_
            refine lv_iload_n hx hb dX0_poll_102 rfl (lv_at hl 0 rfl) ?_
            exact hQ _ _ _ _ _ _ hW dX0_poll_103 (by subst hz_15; subst hz_7; subst hz_3; subst hz_1; rw [hr, m_pollrest_0_r, if_neg c_9, if_pos c_12]) (by subst hz_15; subst hz_7; subst hz_3; subst hz_1; rw [hu, m_pollrest_0_u1, if_neg c_9, if_pos c_12])
      have lp : ∀ (r : Nat) (u' : CS) (t : Nat) (H : Heap) (locs : List Loc) (ls : Array Slot), t + r = tn (u 1 1) → u' 1 = u 1 → u' 0 = u 0 → (∀ x y, x = lp_poll_0 r u' → y = t + lp_pollN_0 r u' → m_X0_poll_r u = m_pollrest_0_r x y ∧ m_X0_poll_u u = m_pollrest_0_u1 x y) → KW D A s (cardW k a u') H locs → lv_has ls 4 [(3, .int (nI t)), (0, .ref (a 0)), (1, .int (z_1)), (2, .ref (a 7))] → W p l e (rmD 3) s m args below meth c H locs 0 0 Q (F0 m 24 ls []) := by
        intro r
        induction r with
        | zero =>
          intro u' t H locs ls htr hu1 hu0 hk hW hl
          refine lv_iload_n hx hb dX0_poll_24 rfl (lv_at hl 0 rfl) ?_
          refine lv_aload_n hx hb dX0_poll_25 rfl (lv_at hl 1 rfl) ?_
          refine k_get X hW inG0 rfl 0 (by decide) fl_X0_13 rfl 0 rfl (v := .ref (a 1)) rfl dX0_poll_26 ?_
          refine lv_iconst (v := nI 1) hx hb dX0_poll_29 (by decide +kernel) ?_
          refine k_iald X hW 1 rfl (j := 1) (v := u' 1 1) rfl (by decide) (by decide) rfl dX0_poll_30 ?_
          refine k_top (y := nI (tn (u 1 1))) (by rw [hu1]; exact hB) ?_
          refine lv_icmp_ge (tgt := 57) hx hb dX0_poll_31 (by decide) (fun c_17 => ?_) (fun c_17 => ?_)
          · have c_17 : tn (u 1 1) ≤ t := (nI_leI (by omega) (by omega)).mp c_17
            obtain ⟨hr, hu⟩ := hk u' t (rfl) (rfl)
            exact kx u' t _ _ _ hu1 hu0 hr hu hW (lv_sub hl [0, 1, 2, 3] rfl)
          · have c_17 : ¬ (tn (u 1 1) ≤ t) := fun h => c_17 ((nI_leI (by omega) (by omega)).mpr h)
            omega
        | succ r ih =>
          intro u' t H locs ls htr hu1 hu0 hk hW hl
          refine lv_iload_n hx hb dX0_poll_24 rfl (lv_at hl 0 rfl) ?_
          refine lv_aload_n hx hb dX0_poll_25 rfl (lv_at hl 1 rfl) ?_
          refine k_get X hW inG0 rfl 0 (by decide) fl_X0_13 rfl 0 rfl (v := .ref (a 1)) rfl dX0_poll_26 ?_
          refine lv_iconst (v := nI 1) hx hb dX0_poll_29 (by decide +kernel) ?_
          refine k_iald X hW 1 rfl (j := 1) (v := u' 1 1) rfl (by decide) (by decide) rfl dX0_poll_30 ?_
          refine k_top (y := nI (tn (u 1 1))) (by rw [hu1]; exact hB) ?_
          refine lv_icmp_ge (tgt := 57) hx hb dX0_poll_31 (by decide) (fun c_18 => ?_) (fun c_18 => ?_)
          · have c_18 : tn (u 1 1) ≤ t := (nI_leI (by omega) (by omega)).mp c_18
            omega
          · have c_18 : ¬ (tn (u 1 1) ≤ t) := fun h => c_18 ((nI_leI (by omega) (by omega)).mpr h)
            refine lv_aload_n hx hb dX0_poll_34 rfl (lv_at hl 1 rfl) ?_
            refine lv_aload_n hx hb dX0_poll_35 rfl (lv_at hl 3 rfl) ?_
            refine k_getN X hW inG3 rfl 6 (by decide) fln_X0_82 rfl 7 rfl (v := .int (u' 6 6)) rfl dX0_poll_36 ?_
            obtain ⟨z_19, hz_19⟩ : ∃ z, m_X0_hasFrame_r u' (u' 6 6) = z := ⟨_, rfl⟩
            have hM_20 := (c_X0_hasFrame l D k a u' (u' 6 6))
            rw [hz_19] at hM_20
            refine kVi (As := [.int (u' 6 6)]) (rest := []) X hW hM_20 yw_X0_hasFrame lk_X0_117 ⟨Nat.le_of_ble_eq_true rfl, Nat.le_of_ble_eq_true rfl⟩ (wr := [cSe k a u', cQs k a, cFl k a u', cCa k a u', cHo k a u', cTa k a u', qC (a 7) (u' 6), qC (a 8) (u' 7), qC (a 9) (u' 8)]) (w_idx (n := 10) [1, 2, 3, 4, 5, 6, 7, 8, 9, 0] rfl (by decide) rfl) (w' := cardW k a u') (w_idx (n := 10) [9, 0, 1, 2, 3, 4, 5, 6, 7, 8] rfl (by decide) rfl) (k_rcv X hW (ci := 0) (q0 := 0) rfl rfl) rfl hl.1 rfl (Nat.le_of_ble_eq_true rfl) ⟨Nat.zero_le _, Nat.zero_le _⟩ dX0_poll_39 (fun H locs hW => ?_)
            refine lv_if_eq (tgt := 57) hx hb dX0_poll_42 (by decide) (fun c_21 => ?_) (fun c_21 => ?_)
            · subst hz_19
              obtain ⟨hr, hu⟩ := hk u' t (by rw [lp_poll_0, if_pos c_21]) (by rw [lp_pollN_0, if_pos c_21]; rfl)
              exact kx u' t _ _ _ hu1 hu0 hr hu hW (lv_sub hl [0, 1, 2, 3] rfl)
            · obtain ⟨hi_22, hj_22⟩ := hf_n (CM_of hc hu0 hu1) (by rw [hz_19]; exact c_21)
              refine lv_aload_n hx hb dX0_poll_45 rfl (lv_at hl 1 rfl) ?_
              refine lv_aload_n hx hb dX0_poll_46 rfl (lv_at hl 3 rfl) ?_
              refine lv_iload_n hx hb dX0_poll_47 rfl (lv_at hl 2 rfl) ?_
              refine k_top (y := nI 0) (h_6) ?_
              obtain ⟨z_23, hz_23⟩ : ∃ z, m_X0_takeOldest_u4 u' (u' 6) = z := ⟨_, rfl⟩
              obtain ⟨z_24, hz_24⟩ : ∃ z, m_X0_takeOldest_u5 u' (u' 6) = z := ⟨_, rfl⟩
              obtain ⟨z_25, hz_25⟩ : ∃ z, m_X0_takeOldest_q u' (u' 6) (nI 0) = z := ⟨_, rfl⟩
              have hM_26 := (c_X0_takeOldest l D k a (a 7) u' (u' 6) (nI 0) (CM_of hc hu0 hu1) hi_22 hj_22)
              rw [hz_23, hz_24, hz_25] at hM_26
              refine kVv (As := [.ref (a 7), .int (nI 0)]) (rest := []) X hW hM_26 yw_X0_takeOldest lk_X0_120 ⟨Nat.le_of_ble_eq_true rfl, Nat.le_of_ble_eq_true rfl⟩ (wr := [cSe k a u', cQs k a, qC (a 8) (u' 7), qC (a 9) (u' 8)]) (w_idx (n := 10) [1, 2, 8, 9, 0, 3, 4, 5, 6, 7] rfl (by decide) rfl) (w' := cardW k a (st2 (st2 (st2 u' 4 z_23) 5 z_24) 6 z_25)) (w_idx (n := 10) [4, 0, 1, 5, 6, 7, 8, 9, 2, 3] rfl (by decide) rfl) (k_rcv X hW (ci := 0) (q0 := 0) rfl rfl) rfl hl.1 rfl (Nat.le_of_ble_eq_true rfl) ⟨Nat.zero_le _, Nat.zero_le _⟩ dX0_poll_48 (fun H locs hW => ?_)
              refine lv_iinc (v := nI (t + 1)) (lv' := [(3, .int (nI (t + 1))), (0, .ref (a 0)), (1, .int z_1), (2, .ref (a 7))]) hx hb dX0_poll_51 hl (k := 0) rfl (k_inc _) (by decide) rfl (fun ls hl => ?_)
              refine lv_goto (tgt := 24) hx hb dX0_poll_54 (by decide) ?_
              subst hz_25
              subst hz_24
              subst hz_23
              subst hz_19
              exact ih (m_take_0 u') (t + 1) _ _ _ (by omega) hu1 hu0 (fun x y hx hy => hk x y (by rw [hx, lp_poll_0, if_neg c_21]) (by rw [hy, lp_pollN_0, if_neg c_21, Nat.add_assoc])) hW (lv_sub hl [0, 1, 2, 3] rfl)
      exact lp (tn (u 1 1)) u 0 _ _ _ (by omega) rfl rfl (fun x y hx hy => by subst hx; subst hy; subst hz_3; subst hz_1; exact ⟨by rw [m_X0_poll_r, if_neg c_5, if_pos h_6], by rw [m_X0_poll_u, if_neg c_5, if_pos h_6]⟩) hW (lv_sub hl [0, 3, 2, 1] rfl)
    · have c_27 : ¬ z_1 = nI 0 := by rw [h_6]; decide +kernel
      refine k_top (y := nI 1) (h_6) ?_
      refine k_aald X hW 2 1 rfl rfl (j := 1) (b := a 8) rfl (by decide) (by decide) rfl dX0_poll_20 ?_
      refine lv_astore_n (lv' := [(2, .ref (a 8)), (1, .int z_1), (0, .ref (a 0))]) hx hb dX0_poll_21 rfl hl (by decide) rfl (fun ls hl => ?_)
      refine lv_iconst (v := nI 0) hx hb dX0_poll_22 (by decide +kernel) ?_
      refine lv_istore_n (lv' := [(3, .int (nI 0)), (2, .ref (a 8)), (1, .int z_1), (0, .ref (a 0))]) hx hb dX0_poll_23 rfl hl (by decide) rfl (fun ls hl => ?_)
      have hB := hc.2.2.1
      have hB16 := hc.2.2.2
      have kx : ∀ (u1 : CS) (t : Nat) (H : Heap) (locs : List Loc) (ls : Array Slot), u1 1 = u 1 → u1 0 = u 0 → m_X0_poll_r u = m_pollrest_1_r u1 t → m_X0_poll_u u = m_pollrest_1_u1 u1 t → KW D A s (cardW k a u1) H locs → lv_has ls 4 [(3, .int (nI t)), (0, .ref (a 0)), (1, .int (z_1)), (2, .ref (a 8))] → W p l e (rmD 3) s m args below meth c H locs 0 0 Q (F0 m 57 ls []) := by
        intro u1 t H locs ls hu1 hu0 hr hu hW hl
        refine lv_aload_n hx hb dX0_poll_57 rfl (lv_at hl 1 rfl) ?_
        refine lv_aload_n hx hb dX0_poll_58 rfl (lv_at hl 3 rfl) ?_
        obtain ⟨z_28, hz_28⟩ : ∃ z, m_X0_leaveRow_1_u u1 = z := ⟨_, rfl⟩
        have hcm_z_28 : CM z_28 := by rw [← hz_28]; exact CM_X0_leaveRow_1 (CM_of hc hu0 hu1)
        have hM_29 := (c_X0_leaveRow_1 l D k a u1 )
        rw [hz_28] at hM_29
        refine kVv (As := [.ref (a 8)]) (rest := []) X hW hM_29 yw_X0_leaveRow lk_X0_124 ⟨Nat.le_of_ble_eq_true rfl, Nat.le_of_ble_eq_true rfl⟩ (wr := []) (List.Perm.refl _) (w' := cardW k a z_28) (List.Perm.refl _) (k_rcv X hW (ci := 0) (q0 := 0) rfl rfl) rfl hl.1 rfl (Nat.le_of_ble_eq_true rfl) ⟨Nat.zero_le _, Nat.zero_le _⟩ dX0_poll_59 (fun H locs hW => ?_)
        refine lv_iload_n hx hb dX0_poll_62 rfl (lv_at hl 0 rfl) ?_
        refine lv_aload_n hx hb dX0_poll_63 rfl (lv_at hl 1 rfl) ?_
        refine k_get X hW inG0 rfl 0 (by decide) fl_X0_13 rfl 0 rfl (v := .ref (a 1)) rfl dX0_poll_64 ?_
        refine lv_iconst (v := nI 1) hx hb dX0_poll_67 (by decide +kernel) ?_
        refine k_iald X hW 1 rfl (j := 1) (v := z_28 1 1) rfl (by decide) (by decide) rfl dX0_poll_68 ?_
        refine lv_icmp_ge (tgt := 94) hx hb dX0_poll_69 (by decide) (fun c_30 => ?_) (fun c_30 => ?_)
        · refine lv_aload_n hx hb dX0_poll_94 rfl (lv_at hl 3 rfl) ?_
          refine lv_aload_n hx hb dX0_poll_95 rfl (lv_at hl 1 rfl) ?_
          obtain ⟨z_31, hz_31⟩ : ∃ z, m_X0_rowLength_r z_28 = z := ⟨_, rfl⟩
          have hM_32 := (c_X0_rowLength l D k a z_28 )
          rw [hz_31] at hM_32
          refine kVi (As := []) (rest := [.ref (a 8)]) X hW hM_32 yw_X0_rowLength lk_X0_131 ⟨Nat.le_of_ble_eq_true rfl, Nat.le_of_ble_eq_true rfl⟩ (wr := []) (List.Perm.refl _) (w' := cardW k a z_28) (List.Perm.refl _) (k_rcv X hW (ci := 0) (q0 := 0) rfl rfl) rfl hl.1 rfl (Nat.le_of_ble_eq_true rfl) ⟨Nat.zero_le _, Nat.zero_le _⟩ dX0_poll_96 (fun H locs hW => ?_)
          refine k_putN X hW inG3 rfl tyX3_ok nmX3 3 (by decide) fln_X0_96 rfl rfl 8 rfl rfl rfl (Nat.le_of_ble_eq_true rfl) dX0_poll_99 (w' := cardW k a (st2 z_28 7 (upd (z_28 7) 3 z_31))) rfl (fun H locs hW => ?_)
          refine lv_iload_n hx hb dX0_poll_102 rfl (lv_at hl 0 rfl) ?_
          exact hQ _ _ _ _ _ _ hW dX0_poll_103 (by subst hz_31; subst hz_28; subst hz_3; subst hz_1; rw [hr, m_pollrest_1_r, if_pos c_30]) (by subst hz_31; subst hz_28; subst hz_3; subst hz_1; rw [hu, m_pollrest_1_u1, if_pos c_30])
        · refine lv_aload_n hx hb dX0_poll_72 rfl (lv_at hl 3 rfl) ?_
          refine lv_aload_n hx hb dX0_poll_73 rfl (lv_at hl 1 rfl) ?_
          refine k_get X hW inG0 rfl 0 (by decide) fl_X0_13 rfl 0 rfl (v := .ref (a 1)) rfl dX0_poll_74 ?_
          refine lv_iconst (v := nI 2) hx hb dX0_poll_77 (by decide +kernel) ?_
          refine k_iald X hW 1 rfl (j := 2) (v := z_28 1 2) rfl (by decide) (by decide) rfl dX0_poll_78 ?_
          refine lv_iconst (v := nI 1) hx hb dX0_poll_79 (by decide +kernel) ?_
          refine lv_icmp_ne (tgt := 87) hx hb dX0_poll_80 (by decide) (fun c_33 => ?_) (fun c_33 => ?_)
          · refine lv_iconst (v := nI 0) hx hb dX0_poll_87 (by decide +kernel) ?_
            obtain ⟨z_34, hz_34⟩ : ∃ z, m_X3_becomeIdle_q (z_28 7) (nI 0) = z := ⟨_, rfl⟩
            have hM_35 := (c_X3_becomeIdle l D k (a 8) (z_28 7) (nI 0))
            rw [hz_34] at hM_35
            refine kNv (As := [.int (nI 0)]) (rest := []) X hW hM_35 yw_X3_becomeIdle lkn_X0_127 ⟨Nat.le_of_ble_eq_true rfl, Nat.le_of_ble_eq_true rfl⟩ (wr := [cO a z_28, cSe k a z_28, cQs k a, cFl k a z_28, cCa k a z_28, cHo k a z_28, cTa k a z_28, qC (a 7) (z_28 6), qC (a 9) (z_28 8)]) (w_idx (n := 10) [0, 1, 2, 3, 4, 5, 6, 7, 9, 8] rfl (by decide) rfl) (w' := cardW k a (st2 z_28 7 z_34)) (w_idx (n := 10) [0, 1, 2, 3, 4, 5, 6, 7, 9, 8] rfl (by decide) rfl) (k_rcv X hW (ci := 3) (q0 := 8) rfl rfl) rfl hl.1 rfl (Nat.le_of_ble_eq_true rfl) ⟨Nat.zero_le _, Nat.zero_le _⟩ dX0_poll_88 (fun H locs hW => ?_)
            refine lv_goto (tgt := 102) hx hb dX0_poll_91 (by decide) ?_
            refine lv_iload_n hx hb dX0_poll_102 rfl (lv_at hl 0 rfl) ?_
            exact hQ _ _ _ _ _ _ hW dX0_poll_103 (by subst hz_34; subst hz_28; subst hz_3; subst hz_1; rw [hr, m_pollrest_1_r, if_neg c_30, if_neg c_33]) (by subst hz_34; subst hz_28; subst hz_3; subst hz_1; rw [hu, m_pollrest_1_u1, if_neg c_30, if_neg c_33])
          · refine lv_iconst (v := nI 1) hx hb dX0_poll_83 (by decide +kernel) ?_
            refine lv_goto (tgt := 88) hx hb dX0_poll_84 (by decide) ?_
            obtain ⟨z_36, hz_36⟩ : ∃ z, m_X3_becomeIdle_q (z_28 7) (nI 1) = z := ⟨_, rfl⟩
            have hM_37 := (c_X3_becomeIdle l D k (a 8) (z_28 7) (nI 1))
            rw [hz_36] at hM_37
            refine kNv (As := [.int (nI 1)]) (rest := []) X hW hM_37 yw_X3_becomeIdle lkn_X0_127 ⟨Nat.le_of_ble_eq_true rfl, Nat.le_of_ble_eq_true rfl⟩ (wr := [cO a z_28, cSe k a z_28, cQs k a, cFl k a z_28, cCa k a z_28, cHo k a z_28, cTa k a z_28, qC (a 7) (z_28 6), qC (a 9) (z_28 8)]) (w_idx (n := 10) [0, 1, 2, 3, 4, 5, 6, 7, 9, 8] rfl (by decide) rfl) (w' := cardW k a (st2 z_28 7 z_36)) (w_idx (n := 10) [0, 1, 2, 3, 4, 5, 6, 7, 9, 8] rfl (by decide) rfl) (k_rcv X hW (ci := 3) (q0 := 8) rfl rfl) rfl hl.1 rfl (Nat.le_of_ble_eq_true rfl) ⟨Nat.zero_le _, Nat.zero_le _⟩ dX0_poll_88 (fun H locs hW => ?_)
            refine lv_goto (tgt := 102) hx hb dX0_poll_91 (by decide) ?_
            refine lv_iload_n hx hb dX0_poll_102 rfl (lv_at hl 0 rfl) ?_
            exact hQ _ _ _ _ _ _ hW dX0_poll_103 (by subst hz_36; subst hz_28; subst hz_3; subst hz_1; rw [hr, m_pollrest_1_r, if_neg c_30, if_pos c_33]) (by subst hz_36; subst hz_28; subst hz_3; subst hz_1; rw [hu, m_pollrest_1_u1, if_neg c_30, if_pos c_33])
      have lp : ∀ (r : Nat) (u' : CS) (t : Nat) (H : Heap) (locs : List Loc) (ls : Array Slot), t + r = tn (u 1 1) → u' 1 = u 1 → u' 0 = u 0 → (∀ x y, x = lp_poll_1 r u' → y = t + lp_pollN_1 r u' → m_X0_poll_r u = m_pollrest_1_r x y ∧ m_X0_poll_u u = m_pollrest_1_u1 x y) → KW D A s (cardW k a u') H locs → lv_has ls 4 [(3, .int (nI t)), (0, .ref (a 0)), (1, .int (z_1)), (2, .ref (a 8))] → W p l e (rmD 3) s m args below meth c H locs 0 0 Q (F0 m 24 ls []) := by
        intro r
        induction r with
        | zero =>
          intro u' t H locs ls htr hu1 hu0 hk hW hl
          refine lv_iload_n hx hb dX0_poll_24 rfl (lv_at hl 0 rfl) ?_
          refine lv_aload_n hx hb dX0_poll_25 rfl (lv_at hl 1 rfl) ?_
          refine k_get X hW inG0 rfl 0 (by decide) fl_X0_13 rfl 0 rfl (v := .ref (a 1)) rfl dX0_poll_26 ?_
          refine lv_iconst (v := nI 1) hx hb dX0_poll_29 (by decide +kernel) ?_
          refine k_iald X hW 1 rfl (j := 1) (v := u' 1 1) rfl (by decide) (by decide) rfl dX0_poll_30 ?_
          refine k_top (y := nI (tn (u 1 1))) (by rw [hu1]; exact hB) ?_
          refine lv_icmp_ge (tgt := 57) hx hb dX0_poll_31 (by decide) (fun c_38 => ?_) (fun c_38 => ?_)
          · have c_38 : tn (u 1 1) ≤ t := (nI_leI (by omega) (by omega)).mp c_38
            obtain ⟨hr, hu⟩ := hk u' t (rfl) (rfl)
            exact kx u' t _ _ _ hu1 hu0 hr hu hW (lv_sub hl [0, 1, 2, 3] rfl)
          · have c_38 : ¬ (tn (u 1 1) ≤ t) := fun h => c_38 ((nI_leI (by omega) (by omega)).mpr h)
            omega
        | succ r ih =>
          intro u' t H locs ls htr hu1 hu0 hk hW hl
          refine lv_iload_n hx hb dX0_poll_24 rfl (lv_at hl 0 rfl) ?_
          refine lv_aload_n hx hb dX0_poll_25 rfl (lv_at hl 1 rfl) ?_
          refine k_get X hW inG0 rfl 0 (by decide) fl_X0_13 rfl 0 rfl (v := .ref (a 1)) rfl dX0_poll_26 ?_
          refine lv_iconst (v := nI 1) hx hb dX0_poll_29 (by decide +kernel) ?_
          refine k_iald X hW 1 rfl (j := 1) (v := u' 1 1) rfl (by decide) (by decide) rfl dX0_poll_30 ?_
          refine k_top (y := nI (tn (u 1 1))) (by rw [hu1]; exact hB) ?_
          refine lv_icmp_ge (tgt := 57) hx hb dX0_poll_31 (by decide) (fun c_39 => ?_) (fun c_39 => ?_)
          · have c_39 : tn (u 1 1) ≤ t := (nI_leI (by omega) (by omega)).mp c_39
            omega
          · have c_39 : ¬ (tn (u 1 1) ≤ t) := fun h => c_39 ((nI_leI (by omega) (by omega)).mpr h)
            refine lv_aload_n hx hb dX0_poll_34 rfl (lv_at hl 1 rfl) ?_
            refine lv_aload_n hx hb dX0_poll_35 rfl (lv_at hl 3 rfl) ?_
            refine k_getN X hW inG3 rfl 6 (by decide) fln_X0_82 rfl 8 rfl (v := .int (u' 7 6)) rfl dX0_poll_36 ?_
            obtain ⟨z_40, hz_40⟩ : ∃ z, m_X0_hasFrame_r u' (u' 7 6) = z := ⟨_, rfl⟩
            have hM_41 := (c_X0_hasFrame l D k a u' (u' 7 6))
            rw [hz_40] at hM_41
            refine kVi (As := [.int (u' 7 6)]) (rest := []) X hW hM_41 yw_X0_hasFrame lk_X0_117 ⟨Nat.le_of_ble_eq_true rfl, Nat.le_of_ble_eq_true rfl⟩ (wr := [cSe k a u', cQs k a, cFl k a u', cCa k a u', cHo k a u', cTa k a u', qC (a 7) (u' 6), qC (a 8) (u' 7), qC (a 9) (u' 8)]) (w_idx (n := 10) [1, 2, 3, 4, 5, 6, 7, 8, 9, 0] rfl (by decide) rfl) (w' := cardW k a u') (w_idx (n := 10) [9, 0, 1, 2, 3, 4, 5, 6, 7, 8] rfl (by decide) rfl) (k_rcv X hW (ci := 0) (q0 := 0) rfl rfl) rfl hl.1 rfl (Nat.le_of_ble_eq_true rfl) ⟨Nat.zero_le _, Nat.zero_le _⟩ dX0_poll_39 (fun H locs hW => ?_)
            refine lv_if_eq (tgt := 57) hx hb dX0_poll_42 (by decide) (fun c_42 => ?_) (fun c_42 => ?_)
            · subst hz_40
              obtain ⟨hr, hu⟩ := hk u' t (by rw [lp_poll_1, if_pos c_42]) (by rw [lp_pollN_1, if_pos c_42]; rfl)
              exact kx u' t _ _ _ hu1 hu0 hr hu hW (lv_sub hl [0, 1, 2, 3] rfl)
            · obtain ⟨hi_43, hj_43⟩ := hf_n (CM_of hc hu0 hu1) (by rw [hz_40]; exact c_42)
              refine lv_aload_n hx hb dX0_poll_45 rfl (lv_at hl 1 rfl) ?_
              refine lv_aload_n hx hb dX0_poll_46 rfl (lv_at hl 3 rfl) ?_
              refine lv_iload_n hx hb dX0_poll_47 rfl (lv_at hl 2 rfl) ?_
              refine k_top (y := nI 1) (h_6) ?_
              obtain ⟨z_44, hz_44⟩ : ∃ z, m_X0_takeOldest_u4 u' (u' 7) = z := ⟨_, rfl⟩
              obtain ⟨z_45, hz_45⟩ : ∃ z, m_X0_takeOldest_u5 u' (u' 7) = z := ⟨_, rfl⟩
              obtain ⟨z_46, hz_46⟩ : ∃ z, m_X0_takeOldest_q u' (u' 7) (nI 1) = z := ⟨_, rfl⟩
              have hM_47 := (c_X0_takeOldest l D k a (a 8) u' (u' 7) (nI 1) (CM_of hc hu0 hu1) hi_43 hj_43)
              rw [hz_44, hz_45, hz_46] at hM_47
              refine kVv (As := [.ref (a 8), .int (nI 1)]) (rest := []) X hW hM_47 yw_X0_takeOldest lk_X0_120 ⟨Nat.le_of_ble_eq_true rfl, Nat.le_of_ble_eq_true rfl⟩ (wr := [cSe k a u', cQs k a, qC (a 7) (u' 6), qC (a 9) (u' 8)]) (w_idx (n := 10) [1, 2, 7, 9, 0, 3, 4, 5, 6, 8] rfl (by decide) rfl) (w' := cardW k a (st2 (st2 (st2 u' 4 z_44) 5 z_45) 7 z_46)) (w_idx (n := 10) [4, 0, 1, 5, 6, 7, 8, 2, 9, 3] rfl (by decide) rfl) (k_rcv X hW (ci := 0) (q0 := 0) rfl rfl) rfl hl.1 rfl (Nat.le_of_ble_eq_true rfl) ⟨Nat.zero_le _, Nat.zero_le _⟩ dX0_poll_48 (fun H locs hW => ?_)
              refine lv_iinc (v := nI (t + 1)) (lv' := [(3, .int (nI (t + 1))), (0, .ref (a 0)), (1, .int z_1), (2, .ref (a 8))]) hx hb dX0_poll_51 hl (k := 0) rfl (k_inc _) (by decide) rfl (fun ls hl => ?_)
              refine lv_goto (tgt := 24) hx hb dX0_poll_54 (by decide) ?_
              subst hz_46
              subst hz_45
              subst hz_44
              subst hz_40
              exact ih (m_take_1 u') (t + 1) _ _ _ (by omega) hu1 hu0 (fun x y hx hy => hk x y (by rw [hx, lp_poll_1, if_neg c_42]) (by rw [hy, lp_pollN_1, if_neg c_42, Nat.add_assoc])) hW (lv_sub hl [0, 1, 2, 3] rfl)
      exact lp (tn (u 1 1)) u 0 _ _ _ (by omega) rfl rfl (fun x y hx hy => by subst hx; subst hy; subst hz_3; subst hz_1; exact ⟨by rw [m_X0_poll_r, if_neg c_5, if_neg c_27, if_pos h_6], by rw [m_X0_poll_u, if_neg c_5, if_neg c_27, if_pos h_6]⟩) hW (lv_sub hl [0, 3, 2, 1] rfl)
    · have c_48 : ¬ z_1 = nI 0 := by rw [h_6]; decide +kernel
      have c_49 : ¬ z_1 = nI 1 := by rw [h_6]; decide +kernel
      refine k_top (y := nI 2) (h_6) ?_
      refine k_aald X hW 2 1 rfl rfl (j := 2) (b := a 9) rfl (by decide) (by decide) rfl dX0_poll_20 ?_
      refine lv_astore_n (lv' := [(2, .ref (a 9)), (1, .int z_1), (0, .ref (a 0))]) hx hb dX0_poll_21 rfl hl (by decide) rfl (fun ls hl => ?_)
      refine lv_iconst (v := nI 0) hx hb dX0_poll_22 (by decide +kernel) ?_
      refine lv_istore_n (lv' := [(3, .int (nI 0)), (2, .ref (a 9)), (1, .int z_1), (0, .ref (a 0))]) hx hb dX0_poll_23 rfl hl (by decide) rfl (fun ls hl => ?_)
      have hB := hc.2.2.1
      have hB16 := hc.2.2.2
      have kx : ∀ (u1 : CS) (t : Nat) (H : Heap) (locs : List Loc) (ls : Array Slot), u1 1 = u 1 → u1 0 = u 0 → m_X0_poll_r u = m_pollrest_2_r u1 t → m_X0_poll_u u = m_pollrest_2_u1 u1 t → KW D A s (cardW k a u1) H locs → lv_has ls 4 [(3, .int (nI t)), (0, .ref (a 0)), (1, .int (z_1)), (2, .ref (a 9))] → W p l e (rmD 3) s m args below meth c H locs 0 0 Q (F0 m 57 ls []) := by
        intro u1 t H locs ls hu1 hu0 hr hu hW hl
        refine lv_aload_n hx hb dX0_poll_57 rfl (lv_at hl 1 rfl) ?_
        refine lv_aload_n hx hb dX0_poll_58 rfl (lv_at hl 3 rfl) ?_
        obtain ⟨z_50, hz_50⟩ : ∃ z, m_X0_leaveRow_2_u u1 = z := ⟨_, rfl⟩
        have hcm_z_50 : CM z_50 := by rw [← hz_50]; exact CM_X0_leaveRow_2 (CM_of hc hu0 hu1)
        have hM_51 := (c_X0_leaveRow_2 l D k a u1 )
        rw [hz_50] at hM_51
        refine kVv (As := [.ref (a 9)]) (rest := []) X hW hM_51 yw_X0_leaveRow lk_X0_124 ⟨Nat.le_of_ble_eq_true rfl, Nat.le_of_ble_eq_true rfl⟩ (wr := []) (List.Perm.refl _) (w' := cardW k a z_50) (List.Perm.refl _) (k_rcv X hW (ci := 0) (q0 := 0) rfl rfl) rfl hl.1 rfl (Nat.le_of_ble_eq_true rfl) ⟨Nat.zero_le _, Nat.zero_le _⟩ dX0_poll_59 (fun H locs hW => ?_)
        refine lv_iload_n hx hb dX0_poll_62 rfl (lv_at hl 0 rfl) ?_
        refine lv_aload_n hx hb dX0_poll_63 rfl (lv_at hl 1 rfl) ?_
        refine k_get X hW inG0 rfl 0 (by decide) fl_X0_13 rfl 0 rfl (v := .ref (a 1)) rfl dX0_poll_64 ?_
        refine lv_iconst (v := nI 1) hx hb dX0_poll_67 (by decide +kernel) ?_
        refine k_iald X hW 1 rfl (j := 1) (v := z_50 1 1) rfl (by decide) (by decide) rfl dX0_poll_68 ?_
        refine lv_icmp_ge (tgt := 94) hx hb dX0_poll_69 (by decide) (fun c_52 => ?_) (fun c_52 => ?_)
        · refine lv_aload_n hx hb dX0_poll_94 rfl (lv_at hl 3 rfl) ?_
          refine lv_aload_n hx hb dX0_poll_95 rfl (lv_at hl 1 rfl) ?_
          obtain ⟨z_53, hz_53⟩ : ∃ z, m_X0_rowLength_r z_50 = z := ⟨_, rfl⟩
          have hM_54 := (c_X0_rowLength l D k a z_50 )
          rw [hz_53] at hM_54
          refine kVi (As := []) (rest := [.ref (a 9)]) X hW hM_54 yw_X0_rowLength lk_X0_131 ⟨Nat.le_of_ble_eq_true rfl, Nat.le_of_ble_eq_true rfl⟩ (wr := []) (List.Perm.refl _) (w' := cardW k a z_50) (List.Perm.refl _) (k_rcv X hW (ci := 0) (q0 := 0) rfl rfl) rfl hl.1 rfl (Nat.le_of_ble_eq_true rfl) ⟨Nat.zero_le _, Nat.zero_le _⟩ dX0_poll_96 (fun H locs hW => ?_)
          refine k_putN X hW inG3 rfl tyX3_ok nmX3 3 (by decide) fln_X0_96 rfl rfl 9 rfl rfl rfl (Nat.le_of_ble_eq_true rfl) dX0_poll_99 (w' := cardW k a (st2 z_50 8 (upd (z_50 8) 3 z_53))) rfl (fun H locs hW => ?_)
          refine lv_iload_n hx hb dX0_poll_102 rfl (lv_at hl 0 rfl) ?_
          exact hQ _ _ _ _ _ _ hW dX0_poll_103 (by subst hz_53; subst hz_50; subst hz_3; subst hz_1; rw [hr, m_pollrest_2_r, if_pos c_52]) (by subst hz_53; subst hz_50; subst hz_3; subst hz_1; rw [hu, m_pollrest_2_u1, if_pos c_52])
        · refine lv_aload_n hx hb dX0_poll_72 rfl (lv_at hl 3 rfl) ?_
          refine lv_aload_n hx hb dX0_poll_73 rfl (lv_at hl 1 rfl) ?_
          refine k_get X hW inG0 rfl 0 (by decide) fl_X0_13 rfl 0 rfl (v := .ref (a 1)) rfl dX0_poll_74 ?_
          refine lv_iconst (v := nI 2) hx hb dX0_poll_77 (by decide +kernel) ?_
          refine k_iald X hW 1 rfl (j := 2) (v := z_50 1 2) rfl (by decide) (by decide) rfl dX0_poll_78 ?_
          refine lv_iconst (v := nI 1) hx hb dX0_poll_79 (by decide +kernel) ?_
          refine lv_icmp_ne (tgt := 87) hx hb dX0_poll_80 (by decide) (fun c_55 => ?_) (fun c_55 => ?_)
          · refine lv_iconst (v := nI 0) hx hb dX0_poll_87 (by decide +kernel) ?_
            obtain ⟨z_56, hz_56⟩ : ∃ z, m_X3_becomeIdle_q (z_50 8) (nI 0) = z := ⟨_, rfl⟩
            have hM_57 := (c_X3_becomeIdle l D k (a 9) (z_50 8) (nI 0))
            rw [hz_56] at hM_57
            refine kNv (As := [.int (nI 0)]) (rest := []) X hW hM_57 yw_X3_becomeIdle lkn_X0_127 ⟨Nat.le_of_ble_eq_true rfl, Nat.le_of_ble_eq_true rfl⟩ (wr := [cO a z_50, cSe k a z_50, cQs k a, cFl k a z_50, cCa k a z_50, cHo k a z_50, cTa k a z_50, qC (a 7) (z_50 6), qC (a 8) (z_50 7)]) (w_idx (n := 10) [0, 1, 2, 3, 4, 5, 6, 7, 8, 9] rfl (by decide) rfl) (w' := cardW k a (st2 z_50 8 z_56)) (w_idx (n := 10) [0, 1, 2, 3, 4, 5, 6, 7, 8, 9] rfl (by decide) rfl) (k_rcv X hW (ci := 3) (q0 := 9) rfl rfl) rfl hl.1 rfl (Nat.le_of_ble_eq_true rfl) ⟨Nat.zero_le _, Nat.zero_le _⟩ dX0_poll_88 (fun H locs hW => ?_)
            refine lv_goto (tgt := 102) hx hb dX0_poll_91 (by decide) ?_
            refine lv_iload_n hx hb dX0_poll_102 rfl (lv_at hl 0 rfl) ?_
            exact hQ _ _ _ _ _ _ hW dX0_poll_103 (by subst hz_56; subst hz_50; subst hz_3; subst hz_1; rw [hr, m_pollrest_2_r, if_neg c_52, if_neg c_55]) (by subst hz_56; subst hz_50; subst hz_3; subst hz_1; rw [hu, m_pollrest_2_u1, if_neg c_52, if_neg c_55])
          · refine lv_iconst (v := nI 1) hx hb dX0_poll_83 (by decide +kernel) ?_
            refine lv_goto (tgt := 88) hx hb dX0_poll_84 (by decide) ?_
            obtain ⟨z_58, hz_58⟩ : ∃ z, m_X3_becomeIdle_q (z_50 8) (nI 1) = z := ⟨_, rfl⟩
            have hM_59 := (c_X3_becomeIdle l D k (a 9) (z_50 8) (nI 1))
            rw [hz_58] at hM_59
            refine kNv (As := [.int (nI 1)]) (rest := []) X hW hM_59 yw_X3_becomeIdle lkn_X0_127 ⟨Nat.le_of_ble_eq_true rfl, Nat.le_of_ble_eq_true rfl⟩ (wr := [cO a z_50, cSe k a z_50, cQs k a, cFl k a z_50, cCa k a z_50, cHo k a z_50, cTa k a z_50, qC (a 7) (z_50 6), qC (a 8) (z_50 7)]) (w_idx (n := 10) [0, 1, 2, 3, 4, 5, 6, 7, 8, 9] rfl (by decide) rfl) (w' := cardW k a (st2 z_50 8 z_58)) (w_idx (n := 10) [0, 1, 2, 3, 4, 5, 6, 7, 8, 9] rfl (by decide) rfl) (k_rcv X hW (ci := 3) (q0 := 9) rfl rfl) rfl hl.1 rfl (Nat.le_of_ble_eq_true rfl) ⟨Nat.zero_le _, Nat.zero_le _⟩ dX0_poll_88 (fun H locs hW => ?_)
            refine lv_goto (tgt := 102) hx hb dX0_poll_91 (by decide) ?_
            refine lv_iload_n hx hb dX0_poll_102 rfl (lv_at hl 0 rfl) ?_
            exact hQ _ _ _ _ _ _ hW dX0_poll_103 (by subst hz_58; subst hz_50; subst hz_3; subst hz_1; rw [hr, m_pollrest_2_r, if_neg c_52, if_pos c_55]) (by subst hz_58; subst hz_50; subst hz_3; subst hz_1; rw [hu, m_pollrest_2_u1, if_neg c_52, if_pos c_55])
      have lp : ∀ (r : Nat) (u' : CS) (t : Nat) (H : Heap) (locs : List Loc) (ls : Array Slot), t + r = tn (u 1 1) → u' 1 = u 1 → u' 0 = u 0 → (∀ x y, x = lp_poll_2 r u' → y = t + lp_pollN_2 r u' → m_X0_poll_r u = m_pollrest_2_r x y ∧ m_X0_poll_u u = m_pollrest_2_u1 x y) → KW D A s (cardW k a u') H locs → lv_has ls 4 [(3, .int (nI t)), (0, .ref (a 0)), (1, .int (z_1)), (2, .ref (a 9))] → W p l e (rmD 3) s m args below meth c H locs 0 0 Q (F0 m 24 ls []) := by
        intro r
        induction r with
        | zero =>
          intro u' t H locs ls htr hu1 hu0 hk hW hl
          refine lv_iload_n hx hb dX0_poll_24 rfl (lv_at hl 0 rfl) ?_
          refine lv_aload_n hx hb dX0_poll_25 rfl (lv_at hl 1 rfl) ?_
          refine k_get X hW inG0 rfl 0 (by decide) fl_X0_13 rfl 0 rfl (v := .ref (a 1)) rfl dX0_poll_26 ?_
          refine lv_iconst (v := nI 1) hx hb dX0_poll_29 (by decide +kernel) ?_
          refine k_iald X hW 1 rfl (j := 1) (v := u' 1 1) rfl (by decide) (by decide) rfl dX0_poll_30 ?_
          refine k_top (y := nI (tn (u 1 1))) (by rw [hu1]; exact hB) ?_
          refine lv_icmp_ge (tgt := 57) hx hb dX0_poll_31 (by decide) (fun c_60 => ?_) (fun c_60 => ?_)
          · have c_60 : tn (u 1 1) ≤ t := (nI_leI (by omega) (by omega)).mp c_60
            obtain ⟨hr, hu⟩ := hk u' t (rfl) (rfl)
            exact kx u' t _ _ _ hu1 hu0 hr hu hW (lv_sub hl [0, 1, 2, 3] rfl)
          · have c_60 : ¬ (tn (u 1 1) ≤ t) := fun h => c_60 ((nI_leI (by omega) (by omega)).mpr h)
            omega
        | succ r ih =>
          intro u' t H locs ls htr hu1 hu0 hk hW hl
          refine lv_iload_n hx hb dX0_poll_24 rfl (lv_at hl 0 rfl) ?_
          refine lv_aload_n hx hb dX0_poll_25 rfl (lv_at hl 1 rfl) ?_
          refine k_get X hW inG0 rfl 0 (by decide) fl_X0_13 rfl 0 rfl (v := .ref (a 1)) rfl dX0_poll_26 ?_
          refine lv_iconst (v := nI 1) hx hb dX0_poll_29 (by decide +kernel) ?_
          refine k_iald X hW 1 rfl (j := 1) (v := u' 1 1) rfl (by decide) (by decide) rfl dX0_poll_30 ?_
          refine k_top (y := nI (tn (u 1 1))) (by rw [hu1]; exact hB) ?_
          refine lv_icmp_ge (tgt := 57) hx hb dX0_poll_31 (by decide) (fun c_61 => ?_) (fun c_61 => ?_)
          · have c_61 : tn (u 1 1) ≤ t := (nI_leI (by omega) (by omega)).mp c_61
            omega
          · have c_61 : ¬ (tn (u 1 1) ≤ t) := fun h => c_61 ((nI_leI (by omega) (by omega)).mpr h)
            refine lv_aload_n hx hb dX0_poll_34 rfl (lv_at hl 1 rfl) ?_
            refine lv_aload_n hx hb dX0_poll_35 rfl (lv_at hl 3 rfl) ?_
            refine k_getN X hW inG3 rfl 6 (by decide) fln_X0_82 rfl 9 rfl (v := .int (u' 8 6)) rfl dX0_poll_36 ?_
            obtain ⟨z_62, hz_62⟩ : ∃ z, m_X0_hasFrame_r u' (u' 8 6) = z := ⟨_, rfl⟩
            have hM_63 := (c_X0_hasFrame l D k a u' (u' 8 6))
            rw [hz_62] at hM_63
            refine kVi (As := [.int (u' 8 6)]) (rest := []) X hW hM_63 yw_X0_hasFrame lk_X0_117 ⟨Nat.le_of_ble_eq_true rfl, Nat.le_of_ble_eq_true rfl⟩ (wr := [cSe k a u', cQs k a, cFl k a u', cCa k a u', cHo k a u', cTa k a u', qC (a 7) (u' 6), qC (a 8) (u' 7), qC (a 9) (u' 8)]) (w_idx (n := 10) [1, 2, 3, 4, 5, 6, 7, 8, 9, 0] rfl (by decide) rfl) (w' := cardW k a u') (w_idx (n := 10) [9, 0, 1, 2, 3, 4, 5, 6, 7, 8] rfl (by decide) rfl) (k_rcv X hW (ci := 0) (q0 := 0) rfl rfl) rfl hl.1 rfl (Nat.le_of_ble_eq_true rfl) ⟨Nat.zero_le _, Nat.zero_le _⟩ dX0_poll_39 (fun H locs hW => ?_)
            refine lv_if_eq (tgt := 57) hx hb dX0_poll_42 (by decide) (fun c_64 => ?_) (fun c_64 => ?_)
            · subst hz_62
              obtain ⟨hr, hu⟩ := hk u' t (by rw [lp_poll_2, if_pos c_64]) (by rw [lp_pollN_2, if_pos c_64]; rfl)
              exact kx u' t _ _ _ hu1 hu0 hr hu hW (lv_sub hl [0, 1, 2, 3] rfl)
            · obtain ⟨hi_65, hj_65⟩ := hf_n (CM_of hc hu0 hu1) (by rw [hz_62]; exact c_64)
              refine lv_aload_n hx hb dX0_poll_45 rfl (lv_at hl 1 rfl) ?_
              refine lv_aload_n hx hb dX0_poll_46 rfl (lv_at hl 3 rfl) ?_
              refine lv_iload_n hx hb dX0_poll_47 rfl (lv_at hl 2 rfl) ?_
              refine k_top (y := nI 2) (h_6) ?_
              obtain ⟨z_66, hz_66⟩ : ∃ z, m_X0_takeOldest_u4 u' (u' 8) = z := ⟨_, rfl⟩
              obtain ⟨z_67, hz_67⟩ : ∃ z, m_X0_takeOldest_u5 u' (u' 8) = z := ⟨_, rfl⟩
              obtain ⟨z_68, hz_68⟩ : ∃ z, m_X0_takeOldest_q u' (u' 8) (nI 2) = z := ⟨_, rfl⟩
              have hM_69 := (c_X0_takeOldest l D k a (a 9) u' (u' 8) (nI 2) (CM_of hc hu0 hu1) hi_65 hj_65)
              rw [hz_66, hz_67, hz_68] at hM_69
              refine kVv (As := [.ref (a 9), .int (nI 2)]) (rest := []) X hW hM_69 yw_X0_takeOldest lk_X0_120 ⟨Nat.le_of_ble_eq_true rfl, Nat.le_of_ble_eq_true rfl⟩ (wr := [cSe k a u', cQs k a, qC (a 7) (u' 6), qC (a 8) (u' 7)]) (w_idx (n := 10) [1, 2, 7, 8, 0, 3, 4, 5, 6, 9] rfl (by decide) rfl) (w' := cardW k a (st2 (st2 (st2 u' 4 z_66) 5 z_67) 8 z_68)) (w_idx (n := 10) [4, 0, 1, 5, 6, 7, 8, 2, 3, 9] rfl (by decide) rfl) (k_rcv X hW (ci := 0) (q0 := 0) rfl rfl) rfl hl.1 rfl (Nat.le_of_ble_eq_true rfl) ⟨Nat.zero_le _, Nat.zero_le _⟩ dX0_poll_48 (fun H locs hW => ?_)
              refine lv_iinc (v := nI (t + 1)) (lv' := [(3, .int (nI (t + 1))), (0, .ref (a 0)), (1, .int z_1), (2, .ref (a 9))]) hx hb dX0_poll_51 hl (k := 0) rfl (k_inc _) (by decide) rfl (fun ls hl => ?_)
              refine lv_goto (tgt := 24) hx hb dX0_poll_54 (by decide) ?_
              subst hz_68
              subst hz_67
              subst hz_66
              subst hz_62
              exact ih (m_take_2 u') (t + 1) _ _ _ (by omega) hu1 hu0 (fun x y hx hy => hk x y (by rw [hx, lp_poll_2, if_neg c_64]) (by rw [hy, lp_pollN_2, if_neg c_64, Nat.add_assoc])) hW (lv_sub hl [0, 1, 2, 3] rfl)
      exact lp (tn (u 1 1)) u 0 _ _ _ (by omega) rfl rfl (fun x y hx hy => by subst hx; subst hy; subst hz_3; subst hz_1; exact ⟨by rw [m_X0_poll_r, if_neg c_5, if_neg c_48, if_neg c_49], by rw [m_X0_poll_u, if_neg c_5, if_neg c_48, if_neg c_49]⟩) hW (lv_sub hl [0, 3, 2, 1] rfl)
  · refine lv_iconst (v := nI 0) hx hb dX0_poll_13 (by decide +kernel) ?_
    exact hQ _ _ _ _ _ _ hW dX0_poll_14 (by subst hz_3; subst hz_1; rw [m_X0_poll_r, if_pos c_5]) (by subst hz_3; subst hz_1; rw [m_X0_poll_u, if_pos c_5])
set_option maxHeartbeats 4000000 in
theorem CM_pollrest_0 {u1 : CS} {t : Nat} (h : CM u1) : CM (m_pollrest_0_u1 u1 t) := by
  rw [m_pollrest_0_u1]
  split
  · exact (CM_stc (CM_X0_leaveRow_0 h) (by decide) (by decide))
  · split
    · exact (CM_stc (CM_X0_leaveRow_0 h) (by decide) (by decide))
    · exact (CM_stc (CM_X0_leaveRow_0 h) (by decide) (by decide))
set_option maxHeartbeats 4000000 in
theorem CM_pollrest_1 {u1 : CS} {t : Nat} (h : CM u1) : CM (m_pollrest_1_u1 u1 t) := by
  rw [m_pollrest_1_u1]
  split
  · exact (CM_stc (CM_X0_leaveRow_1 h) (by decide) (by decide))
  · split
    · exact (CM_stc (CM_X0_leaveRow_1 h) (by decide) (by decide))
    · exact (CM_stc (CM_X0_leaveRow_1 h) (by decide) (by decide))
set_option maxHeartbeats 4000000 in
theorem CM_pollrest_2 {u1 : CS} {t : Nat} (h : CM u1) : CM (m_pollrest_2_u1 u1 t) := by
  rw [m_pollrest_2_u1]
  split
  · exact (CM_stc (CM_X0_leaveRow_2 h) (by decide) (by decide))
  · split
    · exact (CM_stc (CM_X0_leaveRow_2 h) (by decide) (by decide))
    · exact (CM_stc (CM_X0_leaveRow_2 h) (by decide) (by decide))
set_option maxHeartbeats 4000000 in
theorem CM_X0_poll {u : CS} (h : CM u) : CM (m_X0_poll_u u) := by
  have h0 := CM_pollrest_0 (t := 0 + lp_pollN_0 (tn (u 1 1)) u) (CM_of h (lp_poll_0_01 (tn (u 1 1)) u).1 (lp_poll_0_01 (tn (u 1 1)) u).2)
  have h1 := CM_pollrest_1 (t := 0 + lp_pollN_1 (tn (u 1 1)) u) (CM_of h (lp_poll_1_01 (tn (u 1 1)) u).1 (lp_poll_1_01 (tn (u 1 1)) u).2)
  have h2 := CM_pollrest_2 (t := 0 + lp_pollN_2 (tn (u 1 1)) u) (CM_of h (lp_poll_2_01 (tn (u 1 1)) u).1 (lp_poll_2_01 (tn (u 1 1)) u).2)
  rw [m_X0_poll_u]
  split
  · exact h
  · split
    · exact h0
    · split
      · exact h1
      · exact h2
end
section
def m_X0_tick_r (u : CS) : Int32 := if (m_X0_whySilent_r (m_X0_poll_u u) ((m_X0_poll_u u) 6)) = 0 then (if (m_X0_whySilent_r (m_X0_enterRow_0_u (m_X0_poll_u u)) ((m_X0_enterRow_0_u (m_X0_poll_u u)) 7)) = 0 then (if (m_X0_whySilent_r (m_X0_enterRow_1_u (m_X0_enterRow_0_u (m_X0_poll_u u))) ((m_X0_enterRow_1_u (m_X0_enterRow_0_u (m_X0_poll_u u))) 8)) = 0 then (m_X0_poll_r u) else (m_X0_poll_r u)) else if (m_X0_whySilent_r (m_X0_enterRow_0_u (m_X0_poll_u u)) ((m_X0_enterRow_0_u (m_X0_poll_u u)) 8)) = 0 then (m_X0_poll_r u) else (m_X0_poll_r u)) else if (m_X0_whySilent_r (m_X0_poll_u u) ((m_X0_poll_u u) 7)) = 0 then (if (m_X0_whySilent_r (m_X0_enterRow_1_u (m_X0_poll_u u)) ((m_X0_enterRow_1_u (m_X0_poll_u u)) 8)) = 0 then (m_X0_poll_r u) else (m_X0_poll_r u)) else if (m_X0_whySilent_r (m_X0_poll_u u) ((m_X0_poll_u u) 8)) = 0 then (m_X0_poll_r u) else (m_X0_poll_r u)
def m_X0_tick_u (u : CS) : CS := if (m_X0_whySilent_r (m_X0_poll_u u) ((m_X0_poll_u u) 6)) = 0 then (if (m_X0_whySilent_r (m_X0_enterRow_0_u (m_X0_poll_u u)) ((m_X0_enterRow_0_u (m_X0_poll_u u)) 7)) = 0 then (if (m_X0_whySilent_r (m_X0_enterRow_1_u (m_X0_enterRow_0_u (m_X0_poll_u u))) ((m_X0_enterRow_1_u (m_X0_enterRow_0_u (m_X0_poll_u u))) 8)) = 0 then st2 (m_X0_enterRow_2_u (m_X0_enterRow_1_u (m_X0_enterRow_0_u (m_X0_poll_u u)))) 0 (upd ((m_X0_enterRow_2_u (m_X0_enterRow_1_u (m_X0_enterRow_0_u (m_X0_poll_u u)))) 0) 2 (((m_X0_enterRow_2_u (m_X0_enterRow_1_u (m_X0_enterRow_0_u (m_X0_poll_u u)))) 0 2) + (nI 1))) else st2 (m_X0_enterRow_1_u (m_X0_enterRow_0_u (m_X0_poll_u u))) 0 (upd ((m_X0_enterRow_1_u (m_X0_enterRow_0_u (m_X0_poll_u u))) 0) 2 (((m_X0_enterRow_1_u (m_X0_enterRow_0_u (m_X0_poll_u u))) 0 2) + (nI 1)))) else if (m_X0_whySilent_r (m_X0_enterRow_0_u (m_X0_poll_u u)) ((m_X0_enterRow_0_u (m_X0_poll_u u)) 8)) = 0 then st2 (m_X0_enterRow_2_u (m_X0_enterRow_0_u (m_X0_poll_u u))) 0 (upd ((m_X0_enterRow_2_u (m_X0_enterRow_0_u (m_X0_poll_u u))) 0) 2 (((m_X0_enterRow_2_u (m_X0_enterRow_0_u (m_X0_poll_u u))) 0 2) + (nI 1))) else st2 (m_X0_enterRow_0_u (m_X0_poll_u u)) 0 (upd ((m_X0_enterRow_0_u (m_X0_poll_u u)) 0) 2 (((m_X0_enterRow_0_u (m_X0_poll_u u)) 0 2) + (nI 1)))) else if (m_X0_whySilent_r (m_X0_poll_u u) ((m_X0_poll_u u) 7)) = 0 then (if (m_X0_whySilent_r (m_X0_enterRow_1_u (m_X0_poll_u u)) ((m_X0_enterRow_1_u (m_X0_poll_u u)) 8)) = 0 then st2 (m_X0_enterRow_2_u (m_X0_enterRow_1_u (m_X0_poll_u u))) 0 (upd ((m_X0_enterRow_2_u (m_X0_enterRow_1_u (m_X0_poll_u u))) 0) 2 (((m_X0_enterRow_2_u (m_X0_enterRow_1_u (m_X0_poll_u u))) 0 2) + (nI 1))) else st2 (m_X0_enterRow_1_u (m_X0_poll_u u)) 0 (upd ((m_X0_enterRow_1_u (m_X0_poll_u u)) 0) 2 (((m_X0_enterRow_1_u (m_X0_poll_u u)) 0 2) + (nI 1)))) else if (m_X0_whySilent_r (m_X0_poll_u u) ((m_X0_poll_u u) 8)) = 0 then st2 (m_X0_enterRow_2_u (m_X0_poll_u u)) 0 (upd ((m_X0_enterRow_2_u (m_X0_poll_u u)) 0) 2 (((m_X0_enterRow_2_u (m_X0_poll_u u)) 0 2) + (nI 1))) else st2 (m_X0_poll_u u) 0 (upd ((m_X0_poll_u u) 0) 2 (((m_X0_poll_u u) 0 2) + (nI 1)))
set_option maxHeartbeats 4000000 in
set_option maxRecDepth 100000 in
theorem c_X0_tick (l : Launch) (D : va_G) (k : Nat → ClassId) (a : Nat → Nat) (u : CS)  (hc : CM u)  : mI l yX0_tick (wsY yX0_tick cX0_tick 3 (some .int)) 4 D k [.ref (a 0)] (cardW k a u) (cardW k a (m_X0_tick_u u)) (m_X0_tick_r u) := by
  refine mI_intro rfl (Nat.le_of_ble_eq_true rfl) (Or.inl rfl) ?_
  intro p e s m args below meth c A Q ls X hW hl hQ
  have hx := X.hx
  have hb := X.hb
  have hl : lv_has ls 3 [(0, .ref (a 0))] := hl
  have hc4 := hc.2.1
  refine lv_aload_n hx hb dX0_tick_0 rfl (lv_at hl 0 rfl) ?_
  obtain ⟨z_1, hz_1⟩ : ∃ z, m_X0_poll_u u = z := ⟨_, rfl⟩
  have hcm_z_1 : CM z_1 := by rw [← hz_1]; exact CM_X0_poll hc
  obtain ⟨z_2, hz_2⟩ : ∃ z, m_X0_poll_r u = z := ⟨_, rfl⟩
  have hM_3 := (c_X0_poll l D k a u  hc)
  rw [hz_1, hz_2] at hM_3
  refine kVi (As := []) (rest := []) X hW hM_3 yw_X0_poll lk_X0_107 ⟨Nat.le_of_ble_eq_true rfl, Nat.le_of_ble_eq_true rfl⟩ (wr := []) (List.Perm.refl _) (w' := cardW k a z_1) (List.Perm.refl _) (k_rcv X hW (ci := 0) (q0 := 0) rfl rfl) rfl hl.1 rfl (Nat.le_of_ble_eq_true rfl) ⟨Nat.zero_le _, Nat.zero_le _⟩ dX0_tick_1 (fun H locs hW => ?_)
  refine lv_istore_n (lv' := [(1, .int z_2), (0, .ref (a 0))]) hx hb dX0_tick_4 rfl hl (by decide) rfl (fun ls hl => ?_)
  refine lv_iconst (v := nI 0) hx hb dX0_tick_5 (by decide +kernel) ?_
  refine lv_istore_n (lv' := [(2, .int (nI 0)), (1, .int z_2), (0, .ref (a 0))]) hx hb dX0_tick_6 rfl hl (by decide) rfl (fun ls hl => ?_)
  refine lv_iload_n hx hb dX0_tick_7 rfl (lv_at hl 0 rfl) ?_
  refine lv_iconst (v := nI 3) hx hb dX0_tick_8 (by decide +kernel) ?_
  refine lv_icmp_ge (tgt := 41) hx hb dX0_tick_9 (by decide) (fun c => absurd c (by decide +kernel)) (fun _ => ?_)
  refine lv_aload_n hx hb dX0_tick_12 rfl (lv_at hl 2 rfl) ?_
  refine lv_aload_n hx hb dX0_tick_13 rfl (lv_at hl 2 rfl) ?_
  refine k_get X hW inG0 rfl 1 (by decide) fl_X0_20 rfl 0 rfl (v := .ref (a 2)) rfl dX0_tick_14 ?_
  refine lv_iload_n hx hb dX0_tick_17 rfl (lv_at hl 0 rfl) ?_
  refine k_aald X hW 2 1 rfl rfl (j := 0) (b := a 7) rfl (by decide) (by decide) rfl dX0_tick_18 ?_
  obtain ⟨z_5, hz_5⟩ : ∃ z, m_X0_whySilent_r z_1 (z_1 6) = z := ⟨_, rfl⟩
  have hM_6 := (c_X0_whySilent l D k a (a 7) z_1 (z_1 6)  hcm_z_1)
  rw [hz_5] at hM_6
  refine kVi (As := [.ref (a 7)]) (rest := []) X hW hM_6 yw_X0_whySilent lk_X0_110 ⟨Nat.le_of_ble_eq_true rfl, Nat.le_of_ble_eq_true rfl⟩ (wr := [cSe k a z_1, cQs k a, cFl k a z_1, cHo k a z_1, cTa k a z_1, qC (a 8) (z_1 7), qC (a 9) (z_1 8)]) (w_idx (n := 10) [1, 2, 3, 5, 6, 8, 9, 0, 4, 7] rfl (by decide) rfl) (w' := cardW k a z_1) (w_idx (n := 10) [7, 0, 1, 2, 8, 3, 4, 9, 5, 6] rfl (by decide) rfl) (k_rcv X hW (ci := 0) (q0 := 0) rfl rfl) rfl hl.1 rfl (Nat.le_of_ble_eq_true rfl) ⟨Nat.zero_le _, Nat.zero_le _⟩ dX0_tick_19 (fun H locs hW => ?_)
  refine lv_if_ne (tgt := 35) hx hb dX0_tick_22 (by decide) (fun c_7 => ?_) (fun c_7 => ?_)
  · refine lv_iinc (v := nI 1) (lv' := [(2, .int (nI 1)), (1, .int z_2), (0, .ref (a 0))]) hx hb dX0_tick_35 hl (k := 0) rfl (k_inc _) (by decide) rfl (fun ls hl => ?_)
    refine lv_goto (tgt := 7) hx hb dX0_tick_38 (by decide) ?_
    refine lv_iload_n hx hb dX0_tick_7 rfl (lv_at hl 0 rfl) ?_
    refine lv_iconst (v := nI 3) hx hb dX0_tick_8 (by decide +kernel) ?_
    refine lv_icmp_ge (tgt := 41) hx hb dX0_tick_9 (by decide) (fun c => absurd c (by decide +kernel)) (fun _ => ?_)
    refine lv_aload_n hx hb dX0_tick_12 rfl (lv_at hl 2 rfl) ?_
    refine lv_aload_n hx hb dX0_tick_13 rfl (lv_at hl 2 rfl) ?_
    refine k_get X hW inG0 rfl 1 (by decide) fl_X0_20 rfl 0 rfl (v := .ref (a 2)) rfl dX0_tick_14 ?_
    refine lv_iload_n hx hb dX0_tick_17 rfl (lv_at hl 0 rfl) ?_
    refine k_aald X hW 2 1 rfl rfl (j := 1) (b := a 8) rfl (by decide) (by decide) rfl dX0_tick_18 ?_
    obtain ⟨z_9, hz_9⟩ : ∃ z, m_X0_whySilent_r z_1 (z_1 7) = z := ⟨_, rfl⟩
    have hM_10 := (c_X0_whySilent l D k a (a 8) z_1 (z_1 7)  hcm_z_1)
    rw [hz_9] at hM_10
    refine kVi (As := [.ref (a 8)]) (rest := []) X hW hM_10 yw_X0_whySilent lk_X0_110 ⟨Nat.le_of_ble_eq_true rfl, Nat.le_of_ble_eq_true rfl⟩ (wr := [cSe k a z_1, cQs k a, cFl k a z_1, cHo k a z_1, cTa k a z_1, qC (a 7) (z_1 6), qC (a 9) (z_1 8)]) (w_idx (n := 10) [1, 2, 3, 5, 6, 7, 9, 0, 4, 8] rfl (by decide) rfl) (w' := cardW k a z_1) (w_idx (n := 10) [7, 0, 1, 2, 8, 3, 4, 5, 9, 6] rfl (by decide) rfl) (k_rcv X hW (ci := 0) (q0 := 0) rfl rfl) rfl hl.1 rfl (Nat.le_of_ble_eq_true rfl) ⟨Nat.zero_le _, Nat.zero_le _⟩ dX0_tick_19 (fun H locs hW => ?_)
    refine lv_if_ne (tgt := 35) hx hb dX0_tick_22 (by decide) (fun c_11 => ?_) (fun c_11 => ?_)
    · refine lv_iinc (v := nI 2) (lv' := [(2, .int (nI 2)), (1, .int z_2), (0, .ref (a 0))]) hx hb dX0_tick_35 hl (k := 0) rfl (k_inc _) (by decide) rfl (fun ls hl => ?_)
      refine lv_goto (tgt := 7) hx hb dX0_tick_38 (by decide) ?_
      refine lv_iload_n hx hb dX0_tick_7 rfl (lv_at hl 0 rfl) ?_
      refine lv_iconst (v := nI 3) hx hb dX0_tick_8 (by decide +kernel) ?_
      refine lv_icmp_ge (tgt := 41) hx hb dX0_tick_9 (by decide) (fun c => absurd c (by decide +kernel)) (fun _ => ?_)
      refine lv_aload_n hx hb dX0_tick_12 rfl (lv_at hl 2 rfl) ?_
      refine lv_aload_n hx hb dX0_tick_13 rfl (lv_at hl 2 rfl) ?_
      refine k_get X hW inG0 rfl 1 (by decide) fl_X0_20 rfl 0 rfl (v := .ref (a 2)) rfl dX0_tick_14 ?_
      refine lv_iload_n hx hb dX0_tick_17 rfl (lv_at hl 0 rfl) ?_
      refine k_aald X hW 2 1 rfl rfl (j := 2) (b := a 9) rfl (by decide) (by decide) rfl dX0_tick_18 ?_
      obtain ⟨z_13, hz_13⟩ : ∃ z, m_X0_whySilent_r z_1 (z_1 8) = z := ⟨_, rfl⟩
      have hM_14 := (c_X0_whySilent l D k a (a 9) z_1 (z_1 8)  hcm_z_1)
      rw [hz_13] at hM_14
      refine kVi (As := [.ref (a 9)]) (rest := []) X hW hM_14 yw_X0_whySilent lk_X0_110 ⟨Nat.le_of_ble_eq_true rfl, Nat.le_of_ble_eq_true rfl⟩ (wr := [cSe k a z_1, cQs k a, cFl k a z_1, cHo k a z_1, cTa k a z_1, qC (a 7) (z_1 6), qC (a 8) (z_1 7)]) (w_idx (n := 10) [1, 2, 3, 5, 6, 7, 8, 0, 4, 9] rfl (by decide) rfl) (w' := cardW k a z_1) (w_idx (n := 10) [7, 0, 1, 2, 8, 3, 4, 5, 6, 9] rfl (by decide) rfl) (k_rcv X hW (ci := 0) (q0 := 0) rfl rfl) rfl hl.1 rfl (Nat.le_of_ble_eq_true rfl) ⟨Nat.zero_le _, Nat.zero_le _⟩ dX0_tick_19 (fun H locs hW => ?_)
      refine lv_if_ne (tgt := 35) hx hb dX0_tick_22 (by decide) (fun c_15 => ?_) (fun c_15 => ?_)
      · refine lv_iinc (v := nI 3) (lv' := [(2, .int (nI 3)), (1, .int z_2), (0, .ref (a 0))]) hx hb dX0_tick_35 hl (k := 0) rfl (k_inc _) (by decide) rfl (fun ls hl => ?_)
        refine lv_goto (tgt := 7) hx hb dX0_tick_38 (by decide) ?_
        refine lv_iload_n hx hb dX0_tick_7 rfl (lv_at hl 0 rfl) ?_
        refine lv_iconst (v := nI 3) hx hb dX0_tick_8 (by decide +kernel) ?_
        refine lv_icmp_ge (tgt := 41) hx hb dX0_tick_9 (by decide) (fun _ => ?_) (fun c => absurd (by decide +kernel) c)
        refine lv_aload_n hx hb dX0_tick_41 rfl (lv_at hl 2 rfl) ?_
        refine lv_dup hx hb dX0_tick_42 rfl ?_
        refine k_get X hW inG0 rfl 2 (by decide) fl_X0_24 rfl 0 rfl (v := .int (z_1 0 2)) rfl dX0_tick_43 ?_
        refine lv_iconst (v := nI 1) hx hb dX0_tick_46 (by decide +kernel) ?_
        refine lv_iadd hx hb dX0_tick_47 ?_
        refine k_put X hW inG0 rfl tyX0_ok nmX0 2 (by decide) fl_X0_24 rfl rfl 0 rfl rfl rfl (Nat.le_of_ble_eq_true rfl) dX0_tick_48 (w' := cardW k a (st2 z_1 0 (upd (z_1 0) 2 ((z_1 0 2) + (nI 1))))) rfl (fun H locs hW => ?_)
        refine lv_iload_n hx hb dX0_tick_51 rfl (lv_at hl 1 rfl) ?_
        exact hQ _ _ _ _ _ _ hW dX0_tick_52 (by subst hz_13; subst hz_9; subst hz_5; subst hz_2; subst hz_1; rw [m_X0_tick_r, if_neg c_7, if_neg c_11, if_neg c_15]) (by subst hz_13; subst hz_9; subst hz_5; subst hz_2; subst hz_1; rw [m_X0_tick_u, if_neg c_7, if_neg c_11, if_neg c_15])
      · refine lv_aload_n hx hb dX0_tick_25 rfl (lv_at hl 2 rfl) ?_
        refine lv_aload_n hx hb dX0_tick_26 rfl (lv_at hl 2 rfl) ?_
        refine k_get X hW inG0 rfl 1 (by decide) fl_X0_20 rfl 0 rfl (v := .ref (a 2)) rfl dX0_tick_27 ?_
        refine lv_iload_n hx hb dX0_tick_30 rfl (lv_at hl 0 rfl) ?_
        refine k_aald X hW 2 1 rfl rfl (j := 2) (b := a 9) rfl (by decide) (by decide) rfl dX0_tick_31 ?_
        obtain ⟨z_17, hz_17⟩ : ∃ z, m_X0_enterRow_2_u z_1 = z := ⟨_, rfl⟩
        have hcm_z_17 : CM z_17 := by rw [← hz_17]; exact CM_X0_enterRow_2 hcm_z_1
        have hM_18 := (c_X0_enterRow_2 l D k a z_1 )
        rw [hz_17] at hM_18
        refine kVv (As := [.ref (a 9)]) (rest := []) X hW hM_18 yw_X0_enterRow lk_X0_93 ⟨Nat.le_of_ble_eq_true rfl, Nat.le_of_ble_eq_true rfl⟩ (wr := []) (List.Perm.refl _) (w' := cardW k a z_17) (List.Perm.refl _) (k_rcv X hW (ci := 0) (q0 := 0) rfl rfl) rfl hl.1 rfl (Nat.le_of_ble_eq_true rfl) ⟨Nat.zero_le _, Nat.zero_le _⟩ dX0_tick_32 (fun H locs hW => ?_)
        refine lv_iinc (v := nI 3) (lv' := [(2, .int (nI 3)), (1, .int z_2), (0, .ref (a 0))]) hx hb dX0_tick_35 hl (k := 0) rfl (k_inc _) (by decide) rfl (fun ls hl => ?_)
        refine lv_goto (tgt := 7) hx hb dX0_tick_38 (by decide) ?_
        refine lv_iload_n hx hb dX0_tick_7 rfl (lv_at hl 0 rfl) ?_
        refine lv_iconst (v := nI 3) hx hb dX0_tick_8 (by decide +kernel) ?_
        refine lv_icmp_ge (tgt := 41) hx hb dX0_tick_9 (by decide) (fun _ => ?_) (fun c => absurd (by decide +kernel) c)
        refine lv_aload_n hx hb dX0_tick_41 rfl (lv_at hl 2 rfl) ?_
        refine lv_dup hx hb dX0_tick_42 rfl ?_
        refine k_get X hW inG0 rfl 2 (by decide) fl_X0_24 rfl 0 rfl (v := .int (z_17 0 2)) rfl dX0_tick_43 ?_
        refine lv_iconst (v := nI 1) hx hb dX0_tick_46 (by decide +kernel) ?_
        refine lv_iadd hx hb dX0_tick_47 ?_
        refine k_put X hW inG0 rfl tyX0_ok nmX0 2 (by decide) fl_X0_24 rfl rfl 0 rfl rfl rfl (Nat.le_of_ble_eq_true rfl) dX0_tick_48 (w' := cardW k a (st2 z_17 0 (upd (z_17 0) 2 ((z_17 0 2) + (nI 1))))) rfl (fun H locs hW => ?_)
        refine lv_iload_n hx hb dX0_tick_51 rfl (lv_at hl 1 rfl) ?_
        exact hQ _ _ _ _ _ _ hW dX0_tick_52 (by subst hz_17; subst hz_13; subst hz_9; subst hz_5; subst hz_2; subst hz_1; rw [m_X0_tick_r, if_neg c_7, if_neg c_11, if_pos c_15]) (by subst hz_17; subst hz_13; subst hz_9; subst hz_5; subst hz_2; subst hz_1; rw [m_X0_tick_u, if_neg c_7, if_neg c_11, if_pos c_15])
    · refine lv_aload_n hx hb dX0_tick_25 rfl (lv_at hl 2 rfl) ?_
      refine lv_aload_n hx hb dX0_tick_26 rfl (lv_at hl 2 rfl) ?_
      refine k_get X hW inG0 rfl 1 (by decide) fl_X0_20 rfl 0 rfl (v := .ref (a 2)) rfl dX0_tick_27 ?_
      refine lv_iload_n hx hb dX0_tick_30 rfl (lv_at hl 0 rfl) ?_
      refine k_aald X hW 2 1 rfl rfl (j := 1) (b := a 8) rfl (by decide) (by decide) rfl dX0_tick_31 ?_
      obtain ⟨z_20, hz_20⟩ : ∃ z, m_X0_enterRow_1_u z_1 = z := ⟨_, rfl⟩
      have hcm_z_20 : CM z_20 := by rw [← hz_20]; exact CM_X0_enterRow_1 hcm_z_1
      have hM_21 := (c_X0_enterRow_1 l D k a z_1 )
      rw [hz_20] at hM_21
      refine kVv (As := [.ref (a 8)]) (rest := []) X hW hM_21 yw_X0_enterRow lk_X0_93 ⟨Nat.le_of_ble_eq_true rfl, Nat.le_of_ble_eq_true rfl⟩ (wr := []) (List.Perm.refl _) (w' := cardW k a z_20) (List.Perm.refl _) (k_rcv X hW (ci := 0) (q0 := 0) rfl rfl) rfl hl.1 rfl (Nat.le_of_ble_eq_true rfl) ⟨Nat.zero_le _, Nat.zero_le _⟩ dX0_tick_32 (fun H locs hW => ?_)
      refine lv_iinc (v := nI 2) (lv' := [(2, .int (nI 2)), (1, .int z_2), (0, .ref (a 0))]) hx hb dX0_tick_35 hl (k := 0) rfl (k_inc _) (by decide) rfl (fun ls hl => ?_)
      refine lv_goto (tgt := 7) hx hb dX0_tick_38 (by decide) ?_
      refine lv_iload_n hx hb dX0_tick_7 rfl (lv_at hl 0 rfl) ?_
      refine lv_iconst (v := nI 3) hx hb dX0_tick_8 (by decide +kernel) ?_
      refine lv_icmp_ge (tgt := 41) hx hb dX0_tick_9 (by decide) (fun c => absurd c (by decide +kernel)) (fun _ => ?_)
      refine lv_aload_n hx hb dX0_tick_12 rfl (lv_at hl 2 rfl) ?_
      refine lv_aload_n hx hb dX0_tick_13 rfl (lv_at hl 2 rfl) ?_
      refine k_get X hW inG0 rfl 1 (by decide) fl_X0_20 rfl 0 rfl (v := .ref (a 2)) rfl dX0_tick_14 ?_
      refine lv_iload_n hx hb dX0_tick_17 rfl (lv_at hl 0 rfl) ?_
      refine k_aald X hW 2 1 rfl rfl (j := 2) (b := a 9) rfl (by decide) (by decide) rfl dX0_tick_18 ?_
      obtain ⟨z_23, hz_23⟩ : ∃ z, m_X0_whySilent_r z_20 (z_20 8) = z := ⟨_, rfl⟩
      have hM_24 := (c_X0_whySilent l D k a (a 9) z_20 (z_20 8)  hcm_z_20)
      rw [hz_23] at hM_24
      refine kVi (As := [.ref (a 9)]) (rest := []) X hW hM_24 yw_X0_whySilent lk_X0_110 ⟨Nat.le_of_ble_eq_true rfl, Nat.le_of_ble_eq_true rfl⟩ (wr := [cSe k a z_20, cQs k a, cFl k a z_20, cHo k a z_20, cTa k a z_20, qC (a 7) (z_20 6), qC (a 8) (z_20 7)]) (w_idx (n := 10) [1, 2, 3, 5, 6, 7, 8, 0, 4, 9] rfl (by decide) rfl) (w' := cardW k a z_20) (w_idx (n := 10) [7, 0, 1, 2, 8, 3, 4, 5, 6, 9] rfl (by decide) rfl) (k_rcv X hW (ci := 0) (q0 := 0) rfl rfl) rfl hl.1 rfl (Nat.le_of_ble_eq_true rfl) ⟨Nat.zero_le _, Nat.zero_le _⟩ dX0_tick_19 (fun H locs hW => ?_)
      refine lv_if_ne (tgt := 35) hx hb dX0_tick_22 (by decide) (fun c_25 => ?_) (fun c_25 => ?_)
      · refine lv_iinc (v := nI 3) (lv' := [(2, .int (nI 3)), (1, .int z_2), (0, .ref (a 0))]) hx hb dX0_tick_35 hl (k := 0) rfl (k_inc _) (by decide) rfl (fun ls hl => ?_)
        refine lv_goto (tgt := 7) hx hb dX0_tick_38 (by decide) ?_
        refine lv_iload_n hx hb dX0_tick_7 rfl (lv_at hl 0 rfl) ?_
        refine lv_iconst (v := nI 3) hx hb dX0_tick_8 (by decide +kernel) ?_
        refine lv_icmp_ge (tgt := 41) hx hb dX0_tick_9 (by decide) (fun _ => ?_) (fun c => absurd (by decide +kernel) c)
        refine lv_aload_n hx hb dX0_tick_41 rfl (lv_at hl 2 rfl) ?_
        refine lv_dup hx hb dX0_tick_42 rfl ?_
        refine k_get X hW inG0 rfl 2 (by decide) fl_X0_24 rfl 0 rfl (v := .int (z_20 0 2)) rfl dX0_tick_43 ?_
        refine lv_iconst (v := nI 1) hx hb dX0_tick_46 (by decide +kernel) ?_
        refine lv_iadd hx hb dX0_tick_47 ?_
        refine k_put X hW inG0 rfl tyX0_ok nmX0 2 (by decide) fl_X0_24 rfl rfl 0 rfl rfl rfl (Nat.le_of_ble_eq_true rfl) dX0_tick_48 (w' := cardW k a (st2 z_20 0 (upd (z_20 0) 2 ((z_20 0 2) + (nI 1))))) rfl (fun H locs hW => ?_)
        refine lv_iload_n hx hb dX0_tick_51 rfl (lv_at hl 1 rfl) ?_
        exact hQ _ _ _ _ _ _ hW dX0_tick_52 (by subst hz_23; subst hz_20; subst hz_9; subst hz_5; subst hz_2; subst hz_1; rw [m_X0_tick_r, if_neg c_7, if_pos c_11, if_neg c_25]) (by subst hz_23; subst hz_20; subst hz_9; subst hz_5; subst hz_2; subst hz_1; rw [m_X0_tick_u, if_neg c_7, if_pos c_11, if_neg c_25])
      · refine lv_aload_n hx hb dX0_tick_25 rfl (lv_at hl 2 rfl) ?_
        refine lv_aload_n hx hb dX0_tick_26 rfl (lv_at hl 2 rfl) ?_
        refine k_get X hW inG0 rfl 1 (by decide) fl_X0_20 rfl 0 rfl (v := .ref (a 2)) rfl dX0_tick_27 ?_
        refine lv_iload_n hx hb dX0_tick_30 rfl (lv_at hl 0 rfl) ?_
        refine k_aald X hW 2 1 rfl rfl (j := 2) (b := a 9) rfl (by decide) (by decide) rfl dX0_tick_31 ?_
        obtain ⟨z_27, hz_27⟩ : ∃ z, m_X0_enterRow_2_u z_20 = z := ⟨_, rfl⟩
        have hcm_z_27 : CM z_27 := by rw [← hz_27]; exact CM_X0_enterRow_2 hcm_z_20
        have hM_28 := (c_X0_enterRow_2 l D k a z_20 )
        rw [hz_27] at hM_28
        refine kVv (As := [.ref (a 9)]) (rest := []) X hW hM_28 yw_X0_enterRow lk_X0_93 ⟨Nat.le_of_ble_eq_true rfl, Nat.le_of_ble_eq_true rfl⟩ (wr := []) (List.Perm.refl _) (w' := cardW k a z_27) (List.Perm.refl _) (k_rcv X hW (ci := 0) (q0 := 0) rfl rfl) rfl hl.1 rfl (Nat.le_of_ble_eq_true rfl) ⟨Nat.zero_le _, Nat.zero_le _⟩ dX0_tick_32 (fun H locs hW => ?_)
        refine lv_iinc (v := nI 3) (lv' := [(2, .int (nI 3)), (1, .int z_2), (0, .ref (a 0))]) hx hb dX0_tick_35 hl (k := 0) rfl (k_inc _) (by decide) rfl (fun ls hl => ?_)
        refine lv_goto (tgt := 7) hx hb dX0_tick_38 (by decide) ?_
        refine lv_iload_n hx hb dX0_tick_7 rfl (lv_at hl 0 rfl) ?_
        refine lv_iconst (v := nI 3) hx hb dX0_tick_8 (by decide +kernel) ?_
        refine lv_icmp_ge (tgt := 41) hx hb dX0_tick_9 (by decide) (fun _ => ?_) (fun c => absurd (by decide +kernel) c)
        refine lv_aload_n hx hb dX0_tick_41 rfl (lv_at hl 2 rfl) ?_
        refine lv_dup hx hb dX0_tick_42 rfl ?_
        refine k_get X hW inG0 rfl 2 (by decide) fl_X0_24 rfl 0 rfl (v := .int (z_27 0 2)) rfl dX0_tick_43 ?_
        refine lv_iconst (v := nI 1) hx hb dX0_tick_46 (by decide +kernel) ?_
        refine lv_iadd hx hb dX0_tick_47 ?_
        refine k_put X hW inG0 rfl tyX0_ok nmX0 2 (by decide) fl_X0_24 rfl rfl 0 rfl rfl rfl (Nat.le_of_ble_eq_true rfl) dX0_tick_48 (w' := cardW k a (st2 z_27 0 (upd (z_27 0) 2 ((z_27 0 2) + (nI 1))))) rfl (fun H locs hW => ?_)
        refine lv_iload_n hx hb dX0_tick_51 rfl (lv_at hl 1 rfl) ?_
        exact hQ _ _ _ _ _ _ hW dX0_tick_52 (by subst hz_27; subst hz_23; subst hz_20; subst hz_9; subst hz_5; subst hz_2; subst hz_1; rw [m_X0_tick_r, if_neg c_7, if_pos c_11, if_pos c_25]) (by subst hz_27; subst hz_23; subst hz_20; subst hz_9; subst hz_5; subst hz_2; subst hz_1; rw [m_X0_tick_u, if_neg c_7, if_pos c_11, if_pos c_25])
  · refine lv_aload_n hx hb dX0_tick_25 rfl (lv_at hl 2 rfl) ?_
    refine lv_aload_n hx hb dX0_tick_26 rfl (lv_at hl 2 rfl) ?_
    refine k_get X hW inG0 rfl 1 (by decide) fl_X0_20 rfl 0 rfl (v := .ref (a 2)) rfl dX0_tick_27 ?_
    refine lv_iload_n hx hb dX0_tick_30 rfl (lv_at hl 0 rfl) ?_
    refine k_aald X hW 2 1 rfl rfl (j := 0) (b := a 7) rfl (by decide) (by decide) rfl dX0_tick_31 ?_
    obtain ⟨z_30, hz_30⟩ : ∃ z, m_X0_enterRow_0_u z_1 = z := ⟨_, rfl⟩
    have hcm_z_30 : CM z_30 := by rw [← hz_30]; exact CM_X0_enterRow_0 hcm_z_1
    have hM_31 := (c_X0_enterRow_0 l D k a z_1 )
    rw [hz_30] at hM_31
    refine kVv (As := [.ref (a 7)]) (rest := []) X hW hM_31 yw_X0_enterRow lk_X0_93 ⟨Nat.le_of_ble_eq_true rfl, Nat.le_of_ble_eq_true rfl⟩ (wr := []) (List.Perm.refl _) (w' := cardW k a z_30) (List.Perm.refl _) (k_rcv X hW (ci := 0) (q0 := 0) rfl rfl) rfl hl.1 rfl (Nat.le_of_ble_eq_true rfl) ⟨Nat.zero_le _, Nat.zero_le _⟩ dX0_tick_32 (fun H locs hW => ?_)
    refine lv_iinc (v := nI 1) (lv' := [(2, .int (nI 1)), (1, .int z_2), (0, .ref (a 0))]) hx hb dX0_tick_35 hl (k := 0) rfl (k_inc _) (by decide) rfl (fun ls hl => ?_)
    refine lv_goto (tgt := 7) hx hb dX0_tick_38 (by decide) ?_
    refine lv_iload_n hx hb dX0_tick_7 rfl (lv_at hl 0 rfl) ?_
    refine lv_iconst (v := nI 3) hx hb dX0_tick_8 (by decide +kernel) ?_
    refine lv_icmp_ge (tgt := 41) hx hb dX0_tick_9 (by decide) (fun c => absurd c (by decide +kernel)) (fun _ => ?_)
    refine lv_aload_n hx hb dX0_tick_12 rfl (lv_at hl 2 rfl) ?_
    refine lv_aload_n hx hb dX0_tick_13 rfl (lv_at hl 2 rfl) ?_
    refine k_get X hW inG0 rfl 1 (by decide) fl_X0_20 rfl 0 rfl (v := .ref (a 2)) rfl dX0_tick_14 ?_
    refine lv_iload_n hx hb dX0_tick_17 rfl (lv_at hl 0 rfl) ?_
    refine k_aald X hW 2 1 rfl rfl (j := 1) (b := a 8) rfl (by decide) (by decide) rfl dX0_tick_18 ?_
    obtain ⟨z_33, hz_33⟩ : ∃ z, m_X0_whySilent_r z_30 (z_30 7) = z := ⟨_, rfl⟩
    have hM_34 := (c_X0_whySilent l D k a (a 8) z_30 (z_30 7)  hcm_z_30)
    rw [hz_33] at hM_34
    refine kVi (As := [.ref (a 8)]) (rest := []) X hW hM_34 yw_X0_whySilent lk_X0_110 ⟨Nat.le_of_ble_eq_true rfl, Nat.le_of_ble_eq_true rfl⟩ (wr := [cSe k a z_30, cQs k a, cFl k a z_30, cHo k a z_30, cTa k a z_30, qC (a 7) (z_30 6), qC (a 9) (z_30 8)]) (w_idx (n := 10) [1, 2, 3, 5, 6, 7, 9, 0, 4, 8] rfl (by decide) rfl) (w' := cardW k a z_30) (w_idx (n := 10) [7, 0, 1, 2, 8, 3, 4, 5, 9, 6] rfl (by decide) rfl) (k_rcv X hW (ci := 0) (q0 := 0) rfl rfl) rfl hl.1 rfl (Nat.le_of_ble_eq_true rfl) ⟨Nat.zero_le _, Nat.zero_le _⟩ dX0_tick_19 (fun H locs hW => ?_)
    refine lv_if_ne (tgt := 35) hx hb dX0_tick_22 (by decide) (fun c_35 => ?_) (fun c_35 => ?_)
    · refine lv_iinc (v := nI 2) (lv' := [(2, .int (nI 2)), (1, .int z_2), (0, .ref (a 0))]) hx hb dX0_tick_35 hl (k := 0) rfl (k_inc _) (by decide) rfl (fun ls hl => ?_)
      refine lv_goto (tgt := 7) hx hb dX0_tick_38 (by decide) ?_
      refine lv_iload_n hx hb dX0_tick_7 rfl (lv_at hl 0 rfl) ?_
      refine lv_iconst (v := nI 3) hx hb dX0_tick_8 (by decide +kernel) ?_
      refine lv_icmp_ge (tgt := 41) hx hb dX0_tick_9 (by decide) (fun c => absurd c (by decide +kernel)) (fun _ => ?_)
      refine lv_aload_n hx hb dX0_tick_12 rfl (lv_at hl 2 rfl) ?_
      refine lv_aload_n hx hb dX0_tick_13 rfl (lv_at hl 2 rfl) ?_
      refine k_get X hW inG0 rfl 1 (by decide) fl_X0_20 rfl 0 rfl (v := .ref (a 2)) rfl dX0_tick_14 ?_
      refine lv_iload_n hx hb dX0_tick_17 rfl (lv_at hl 0 rfl) ?_
      refine k_aald X hW 2 1 rfl rfl (j := 2) (b := a 9) rfl (by decide) (by decide) rfl dX0_tick_18 ?_
      obtain ⟨z_37, hz_37⟩ : ∃ z, m_X0_whySilent_r z_30 (z_30 8) = z := ⟨_, rfl⟩
      have hM_38 := (c_X0_whySilent l D k a (a 9) z_30 (z_30 8)  hcm_z_30)
      rw [hz_37] at hM_38
      refine kVi (As := [.ref (a 9)]) (rest := []) X hW hM_38 yw_X0_whySilent lk_X0_110 ⟨Nat.le_of_ble_eq_true rfl, Nat.le_of_ble_eq_true rfl⟩ (wr := [cSe k a z_30, cQs k a, cFl k a z_30, cHo k a z_30, cTa k a z_30, qC (a 7) (z_30 6), qC (a 8) (z_30 7)]) (w_idx (n := 10) [1, 2, 3, 5, 6, 7, 8, 0, 4, 9] rfl (by decide) rfl) (w' := cardW k a z_30) (w_idx (n := 10) [7, 0, 1, 2, 8, 3, 4, 5, 6, 9] rfl (by decide) rfl) (k_rcv X hW (ci := 0) (q0 := 0) rfl rfl) rfl hl.1 rfl (Nat.le_of_ble_eq_true rfl) ⟨Nat.zero_le _, Nat.zero_le _⟩ dX0_tick_19 (fun H locs hW => ?_)
      refine lv_if_ne (tgt := 35) hx hb dX0_tick_22 (by decide) (fun c_39 => ?_) (fun c_39 => ?_)
      · refine lv_iinc (v := nI 3) (lv' := [(2, .int (nI 3)), (1, .int z_2), (0, .ref (a 0))]) hx hb dX0_tick_35 hl (k := 0) rfl (k_inc _) (by decide) rfl (fun ls hl => ?_)
        refine lv_goto (tgt := 7) hx hb dX0_tick_38 (by decide) ?_
        refine lv_iload_n hx hb dX0_tick_7 rfl (lv_at hl 0 rfl) ?_
        refine lv_iconst (v := nI 3) hx hb dX0_tick_8 (by decide +kernel) ?_
        refine lv_icmp_ge (tgt := 41) hx hb dX0_tick_9 (by decide) (fun _ => ?_) (fun c => absurd (by decide +kernel) c)
        refine lv_aload_n hx hb dX0_tick_41 rfl (lv_at hl 2 rfl) ?_
        refine lv_dup hx hb dX0_tick_42 rfl ?_
        refine k_get X hW inG0 rfl 2 (by decide) fl_X0_24 rfl 0 rfl (v := .int (z_30 0 2)) rfl dX0_tick_43 ?_
        refine lv_iconst (v := nI 1) hx hb dX0_tick_46 (by decide +kernel) ?_
        refine lv_iadd hx hb dX0_tick_47 ?_
        refine k_put X hW inG0 rfl tyX0_ok nmX0 2 (by decide) fl_X0_24 rfl rfl 0 rfl rfl rfl (Nat.le_of_ble_eq_true rfl) dX0_tick_48 (w' := cardW k a (st2 z_30 0 (upd (z_30 0) 2 ((z_30 0 2) + (nI 1))))) rfl (fun H locs hW => ?_)
        refine lv_iload_n hx hb dX0_tick_51 rfl (lv_at hl 1 rfl) ?_
        exact hQ _ _ _ _ _ _ hW dX0_tick_52 (by subst hz_37; subst hz_33; subst hz_30; subst hz_5; subst hz_2; subst hz_1; rw [m_X0_tick_r, if_pos c_7, if_neg c_35, if_neg c_39]) (by subst hz_37; subst hz_33; subst hz_30; subst hz_5; subst hz_2; subst hz_1; rw [m_X0_tick_u, if_pos c_7, if_neg c_35, if_neg c_39])
      · refine lv_aload_n hx hb dX0_tick_25 rfl (lv_at hl 2 rfl) ?_
        refine lv_aload_n hx hb dX0_tick_26 rfl (lv_at hl 2 rfl) ?_
        refine k_get X hW inG0 rfl 1 (by decide) fl_X0_20 rfl 0 rfl (v := .ref (a 2)) rfl dX0_tick_27 ?_
        refine lv_iload_n hx hb dX0_tick_30 rfl (lv_at hl 0 rfl) ?_
        refine k_aald X hW 2 1 rfl rfl (j := 2) (b := a 9) rfl (by decide) (by decide) rfl dX0_tick_31 ?_
        obtain ⟨z_41, hz_41⟩ : ∃ z, m_X0_enterRow_2_u z_30 = z := ⟨_, rfl⟩
        have hcm_z_41 : CM z_41 := by rw [← hz_41]; exact CM_X0_enterRow_2 hcm_z_30
        have hM_42 := (c_X0_enterRow_2 l D k a z_30 )
        rw [hz_41] at hM_42
        refine kVv (As := [.ref (a 9)]) (rest := []) X hW hM_42 yw_X0_enterRow lk_X0_93 ⟨Nat.le_of_ble_eq_true rfl, Nat.le_of_ble_eq_true rfl⟩ (wr := []) (List.Perm.refl _) (w' := cardW k a z_41) (List.Perm.refl _) (k_rcv X hW (ci := 0) (q0 := 0) rfl rfl) rfl hl.1 rfl (Nat.le_of_ble_eq_true rfl) ⟨Nat.zero_le _, Nat.zero_le _⟩ dX0_tick_32 (fun H locs hW => ?_)
        refine lv_iinc (v := nI 3) (lv' := [(2, .int (nI 3)), (1, .int z_2), (0, .ref (a 0))]) hx hb dX0_tick_35 hl (k := 0) rfl (k_inc _) (by decide) rfl (fun ls hl => ?_)
        refine lv_goto (tgt := 7) hx hb dX0_tick_38 (by decide) ?_
        refine lv_iload_n hx hb dX0_tick_7 rfl (lv_at hl 0 rfl) ?_
        refine lv_iconst (v := nI 3) hx hb dX0_tick_8 (by decide +kernel) ?_
        refine lv_icmp_ge (tgt := 41) hx hb dX0_tick_9 (by decide) (fun _ => ?_) (fun c => absurd (by decide +kernel) c)
        refine lv_aload_n hx hb dX0_tick_41 rfl (lv_at hl 2 rfl) ?_
        refine lv_dup hx hb dX0_tick_42 rfl ?_
        refine k_get X hW inG0 rfl 2 (by decide) fl_X0_24 rfl 0 rfl (v := .int (z_41 0 2)) rfl dX0_tick_43 ?_
        refine lv_iconst (v := nI 1) hx hb dX0_tick_46 (by decide +kernel) ?_
        refine lv_iadd hx hb dX0_tick_47 ?_
        refine k_put X hW inG0 rfl tyX0_ok nmX0 2 (by decide) fl_X0_24 rfl rfl 0 rfl rfl rfl (Nat.le_of_ble_eq_true rfl) dX0_tick_48 (w' := cardW k a (st2 z_41 0 (upd (z_41 0) 2 ((z_41 0 2) + (nI 1))))) rfl (fun H locs hW => ?_)
        refine lv_iload_n hx hb dX0_tick_51 rfl (lv_at hl 1 rfl) ?_
        exact hQ _ _ _ _ _ _ hW dX0_tick_52 (by subst hz_41; subst hz_37; subst hz_33; subst hz_30; subst hz_5; subst hz_2; subst hz_1; rw [m_X0_tick_r, if_pos c_7, if_neg c_35, if_pos c_39]) (by subst hz_41; subst hz_37; subst hz_33; subst hz_30; subst hz_5; subst hz_2; subst hz_1; rw [m_X0_tick_u, if_pos c_7, if_neg c_35, if_pos c_39])
    · refine lv_aload_n hx hb dX0_tick_25 rfl (lv_at hl 2 rfl) ?_
      refine lv_aload_n hx hb dX0_tick_26 rfl (lv_at hl 2 rfl) ?_
      refine k_get X hW inG0 rfl 1 (by decide) fl_X0_20 rfl 0 rfl (v := .ref (a 2)) rfl dX0_tick_27 ?_
      refine lv_iload_n hx hb dX0_tick_30 rfl (lv_at hl 0 rfl) ?_
      refine k_aald X hW 2 1 rfl rfl (j := 1) (b := a 8) rfl (by decide) (by decide) rfl dX0_tick_31 ?_
      obtain ⟨z_44, hz_44⟩ : ∃ z, m_X0_enterRow_1_u z_30 = z := ⟨_, rfl⟩
      have hcm_z_44 : CM z_44 := by rw [← hz_44]; exact CM_X0_enterRow_1 hcm_z_30
      have hM_45 := (c_X0_enterRow_1 l D k a z_30 )
      rw [hz_44] at hM_45
      refine kVv (As := [.ref (a 8)]) (rest := []) X hW hM_45 yw_X0_enterRow lk_X0_93 ⟨Nat.le_of_ble_eq_true rfl, Nat.le_of_ble_eq_true rfl⟩ (wr := []) (List.Perm.refl _) (w' := cardW k a z_44) (List.Perm.refl _) (k_rcv X hW (ci := 0) (q0 := 0) rfl rfl) rfl hl.1 rfl (Nat.le_of_ble_eq_true rfl) ⟨Nat.zero_le _, Nat.zero_le _⟩ dX0_tick_32 (fun H locs hW => ?_)
      refine lv_iinc (v := nI 2) (lv' := [(2, .int (nI 2)), (1, .int z_2), (0, .ref (a 0))]) hx hb dX0_tick_35 hl (k := 0) rfl (k_inc _) (by decide) rfl (fun ls hl => ?_)
      refine lv_goto (tgt := 7) hx hb dX0_tick_38 (by decide) ?_
      refine lv_iload_n hx hb dX0_tick_7 rfl (lv_at hl 0 rfl) ?_
      refine lv_iconst (v := nI 3) hx hb dX0_tick_8 (by decide +kernel) ?_
      refine lv_icmp_ge (tgt := 41) hx hb dX0_tick_9 (by decide) (fun c => absurd c (by decide +kernel)) (fun _ => ?_)
      refine lv_aload_n hx hb dX0_tick_12 rfl (lv_at hl 2 rfl) ?_
      refine lv_aload_n hx hb dX0_tick_13 rfl (lv_at hl 2 rfl) ?_
      refine k_get X hW inG0 rfl 1 (by decide) fl_X0_20 rfl 0 rfl (v := .ref (a 2)) rfl dX0_tick_14 ?_
      refine lv_iload_n hx hb dX0_tick_17 rfl (lv_at hl 0 rfl) ?_
      refine k_aald X hW 2 1 rfl rfl (j := 2) (b := a 9) rfl (by decide) (by decide) rfl dX0_tick_18 ?_
      obtain ⟨z_47, hz_47⟩ : ∃ z, m_X0_whySilent_r z_44 (z_44 8) = z := ⟨_, rfl⟩
      have hM_48 := (c_X0_whySilent l D k a (a 9) z_44 (z_44 8)  hcm_z_44)
      rw [hz_47] at hM_48
      refine kVi (As := [.ref (a 9)]) (rest := []) X hW hM_48 yw_X0_whySilent lk_X0_110 ⟨Nat.le_of_ble_eq_true rfl, Nat.le_of_ble_eq_true rfl⟩ (wr := [cSe k a z_44, cQs k a, cFl k a z_44, cHo k a z_44, cTa k a z_44, qC (a 7) (z_44 6), qC (a 8) (z_44 7)]) (w_idx (n := 10) [1, 2, 3, 5, 6, 7, 8, 0, 4, 9] rfl (by decide) rfl) (w' := cardW k a z_44) (w_idx (n := 10) [7, 0, 1, 2, 8, 3, 4, 5, 6, 9] rfl (by decide) rfl) (k_rcv X hW (ci := 0) (q0 := 0) rfl rfl) rfl hl.1 rfl (Nat.le_of_ble_eq_true rfl) ⟨Nat.zero_le _, Nat.zero_le _⟩ dX0_tick_19 (fun H locs hW => ?_)
      refine lv_if_ne (tgt := 35) hx hb dX0_tick_22 (by decide) (fun c_49 => ?_) (fun c_49 => ?_)
      · refine lv_iinc (v := nI 3) (lv' := [(2, .int (nI 3)), (1, .int z_2), (0, .ref (a 0))]) hx hb dX0_tick_35 hl (k := 0) rfl (k_inc _) (by decide) rfl (fun ls hl => ?_)
        refine lv_goto (tgt := 7) hx hb dX0_tick_38 (by decide) ?_
        refine lv_iload_n hx hb dX0_tick_7 rfl (lv_at hl 0 rfl) ?_
        refine lv_iconst (v := nI 3) hx hb dX0_tick_8 (by decide +kernel) ?_
        refine lv_icmp_ge (tgt := 41) hx hb dX0_tick_9 (by decide) (fun _ => ?_) (fun c => absurd (by decide +kernel) c)
        refine lv_aload_n hx hb dX0_tick_41 rfl (lv_at hl 2 rfl) ?_
        refine lv_dup hx hb dX0_tick_42 rfl ?_
        refine k_get X hW inG0 rfl 2 (by decide) fl_X0_24 rfl 0 rfl (v := .int (z_44 0 2)) rfl dX0_tick_43 ?_
        refine lv_iconst (v := nI 1) hx hb dX0_tick_46 (by decide +kernel) ?_
        refine lv_iadd hx hb dX0_tick_47 ?_
        refine k_put X hW inG0 rfl tyX0_ok nmX0 2 (by decide) fl_X0_24 rfl rfl 0 rfl rfl rfl (Nat.le_of_ble_eq_true rfl) dX0_tick_48 (w' := cardW k a (st2 z_44 0 (upd (z_44 0) 2 ((z_44 0 2) + (nI 1))))) rfl (fun H locs hW => ?_)
        refine lv_iload_n hx hb dX0_tick_51 rfl (lv_at hl 1 rfl) ?_
        exact hQ _ _ _ _ _ _ hW dX0_tick_52 (by subst hz_47; subst hz_44; subst hz_33; subst hz_30; subst hz_5; subst hz_2; subst hz_1; rw [m_X0_tick_r, if_pos c_7, if_pos c_35, if_neg c_49]) (by subst hz_47; subst hz_44; subst hz_33; subst hz_30; subst hz_5; subst hz_2; subst hz_1; rw [m_X0_tick_u, if_pos c_7, if_pos c_35, if_neg c_49])
      · refine lv_aload_n hx hb dX0_tick_25 rfl (lv_at hl 2 rfl) ?_
        refine lv_aload_n hx hb dX0_tick_26 rfl (lv_at hl 2 rfl) ?_
        refine k_get X hW inG0 rfl 1 (by decide) fl_X0_20 rfl 0 rfl (v := .ref (a 2)) rfl dX0_tick_27 ?_
        refine lv_iload_n hx hb dX0_tick_30 rfl (lv_at hl 0 rfl) ?_
        refine k_aald X hW 2 1 rfl rfl (j := 2) (b := a 9) rfl (by decide) (by decide) rfl dX0_tick_31 ?_
        obtain ⟨z_51, hz_51⟩ : ∃ z, m_X0_enterRow_2_u z_44 = z := ⟨_, rfl⟩
        have hcm_z_51 : CM z_51 := by rw [← hz_51]; exact CM_X0_enterRow_2 hcm_z_44
        have hM_52 := (c_X0_enterRow_2 l D k a z_44 )
        rw [hz_51] at hM_52
        refine kVv (As := [.ref (a 9)]) (rest := []) X hW hM_52 yw_X0_enterRow lk_X0_93 ⟨Nat.le_of_ble_eq_true rfl, Nat.le_of_ble_eq_true rfl⟩ (wr := []) (List.Perm.refl _) (w' := cardW k a z_51) (List.Perm.refl _) (k_rcv X hW (ci := 0) (q0 := 0) rfl rfl) rfl hl.1 rfl (Nat.le_of_ble_eq_true rfl) ⟨Nat.zero_le _, Nat.zero_le _⟩ dX0_tick_32 (fun H locs hW => ?_)
        refine lv_iinc (v := nI 3) (lv' := [(2, .int (nI 3)), (1, .int z_2), (0, .ref (a 0))]) hx hb dX0_tick_35 hl (k := 0) rfl (k_inc _) (by decide) rfl (fun ls hl => ?_)
        refine lv_goto (tgt := 7) hx hb dX0_tick_38 (by decide) ?_
        refine lv_iload_n hx hb dX0_tick_7 rfl (lv_at hl 0 rfl) ?_
        refine lv_iconst (v := nI 3) hx hb dX0_tick_8 (by decide +kernel) ?_
        refine lv_icmp_ge (tgt := 41) hx hb dX0_tick_9 (by decide) (fun _ => ?_) (fun c => absurd (by decide +kernel) c)
        refine lv_aload_n hx hb dX0_tick_41 rfl (lv_at hl 2 rfl) ?_
        refine lv_dup hx hb dX0_tick_42 rfl ?_
        refine k_get X hW inG0 rfl 2 (by decide) fl_X0_24 rfl 0 rfl (v := .int (z_51 0 2)) rfl dX0_tick_43 ?_
        refine lv_iconst (v := nI 1) hx hb dX0_tick_46 (by decide +kernel) ?_
        refine lv_iadd hx hb dX0_tick_47 ?_
        refine k_put X hW inG0 rfl tyX0_ok nmX0 2 (by decide) fl_X0_24 rfl rfl 0 rfl rfl rfl (Nat.le_of_ble_eq_true rfl) dX0_tick_48 (w' := cardW k a (st2 z_51 0 (upd (z_51 0) 2 ((z_51 0 2) + (nI 1))))) rfl (fun H locs hW => ?_)
        refine lv_iload_n hx hb dX0_tick_51 rfl (lv_at hl 1 rfl) ?_
        exact hQ _ _ _ _ _ _ hW dX0_tick_52 (by subst hz_51; subst hz_47; subst hz_44; subst hz_33; subst hz_30; subst hz_5; subst hz_2; subst hz_1; rw [m_X0_tick_r, if_pos c_7, if_pos c_35, if_pos c_49]) (by subst hz_51; subst hz_47; subst hz_44; subst hz_33; subst hz_30; subst hz_5; subst hz_2; subst hz_1; rw [m_X0_tick_u, if_pos c_7, if_pos c_35, if_pos c_49])
set_option maxHeartbeats 4000000 in
theorem CM_X0_tick {u : CS}  (h : CM u) : CM (m_X0_tick_u u) := by
  rw [m_X0_tick_u]
  split
  · split
    · split
      · exact (CM_st0 (CM_X0_enterRow_2 (CM_X0_enterRow_1 (CM_X0_enterRow_0 (CM_X0_poll h)))) rfl)
      · exact (CM_st0 (CM_X0_enterRow_1 (CM_X0_enterRow_0 (CM_X0_poll h))) rfl)
    · split
      · exact (CM_st0 (CM_X0_enterRow_2 (CM_X0_enterRow_0 (CM_X0_poll h))) rfl)
      · exact (CM_st0 (CM_X0_enterRow_0 (CM_X0_poll h)) rfl)
  · split
    · split
      · exact (CM_st0 (CM_X0_enterRow_2 (CM_X0_enterRow_1 (CM_X0_poll h))) rfl)
      · exact (CM_st0 (CM_X0_enterRow_1 (CM_X0_poll h)) rfl)
    · split
      · exact (CM_st0 (CM_X0_enterRow_2 (CM_X0_poll h)) rfl)
      · exact (CM_st0 (CM_X0_poll h) rfl)
def lp_run : Nat → CS → CS
  | 0, u => u
  | r + 1, u => lp_run r (m_X0_tick_u u)
def lp_runR : Nat → CS → Int32 → Int32
  | 0, _, t => t
  | r + 1, u, t => lp_runR r (m_X0_tick_u u) (t + m_X0_tick_r u)
theorem CM_run : ∀ (r : Nat) {u : CS}, CM u → CM (lp_run r u) := by
  intro r
  induction r with
  | zero => intro u h; exact h
  | succ r ih => intro u h; exact ih (CM_X0_tick h)
def m_X0_runTicks_u (u : CS) (n : Nat) : CS := lp_run n u
def m_X0_runTicks_r (u : CS) (n : Nat) : Int32 := lp_runR n u (nI 0)
theorem CM_X0_runTicks {u : CS} {n : Nat} (h : CM u) : CM (m_X0_runTicks_u u n) := CM_run n h
set_option maxHeartbeats 4000000 in
set_option maxRecDepth 100000 in
theorem c_X0_runTicks (l : Launch) (D : va_G) (k : Nat → ClassId) (a : Nat → Nat) (u : CS) (n : Nat) (hc : CM u) (hn : n < 2 ^ 31) : mI l yX0_runTicks (wsY yX0_runTicks cX0_runTicks 4 (some .int)) 5 D k [.ref (a 0), .int (nI n)] (cardW k a u) (cardW k a (m_X0_runTicks_u u n)) (m_X0_runTicks_r u n) := by
  refine mI_intro rfl (Nat.le_of_ble_eq_true rfl) (Or.inl rfl) ?_
  intro p e s m args below meth c A Q ls X hW hl hQ
  have hx := X.hx
  have hb := X.hb
  have hl : lv_has ls 4 [(0, .ref (a 0)), (1, .int (nI n))] := hl
  have hc4 := hc.2.1
  refine lv_iconst (v := nI 0) hx hb dX0_runTicks_0 (by decide +kernel) ?_
  refine lv_istore_n (lv' := [(2, .int (nI 0)), (0, .ref (a 0)), (1, .int (nI n))]) hx hb dX0_runTicks_1 rfl hl (by decide) rfl (fun ls hl => ?_)
  refine lv_iconst (v := nI 0) hx hb dX0_runTicks_2 (by decide +kernel) ?_
  refine lv_istore_n (lv' := [(3, .int (nI 0)), (2, .int (nI 0)), (0, .ref (a 0)), (1, .int (nI n))]) hx hb dX0_runTicks_3 rfl hl (by decide) rfl (fun ls hl => ?_)
  have lp : ∀ (r : Nat) (u' : CS) (i : Nat) (t : Int32), CM u' → ∀ (H : Heap) (locs : List Loc) (ls : Array Slot), i + r = n → m_X0_runTicks_r u n = lp_runR r u' t → m_X0_runTicks_u u n = lp_run r u' → KW D A s (cardW k a u') H locs → lv_has ls 4 [(3, .int (nI i)), (2, .int t), (0, .ref (a 0)), (1, .int (nI n))] → W p l e (rmD 5) s m args below meth c H locs 0 0 Q (F0 m 4 ls []) := by
    intro r
    induction r with
    | zero =>
      intro u' i t hc' H locs ls hin hr hu hW hl
      refine lv_iload_n hx hb dX0_runTicks_4 rfl (lv_at hl 0 rfl) ?_
      refine lv_iload_n hx hb dX0_runTicks_5 rfl (lv_at hl 3 rfl) ?_
      refine lv_icmp_ge (tgt := 22) hx hb dX0_runTicks_6 (by decide) (fun c_1 => ?_) (fun c_1 => ?_)
      · have c_1 : n ≤ i := (nI_leI (by omega) (by omega)).mp c_1
        refine lv_iload_n hx hb dX0_runTicks_22 rfl (lv_at hl 1 rfl) ?_
        exact hQ _ _ _ _ _ _ hW dX0_runTicks_23 (by rw [hr]; rfl) (by rw [hu]; rfl)
      · have c_1 : ¬ (n ≤ i) := fun h => c_1 ((nI_leI (by omega) (by omega)).mpr h)
        omega
    | succ r ih =>
      intro u' i t hc' H locs ls hin hr hu hW hl
      refine lv_iload_n hx hb dX0_runTicks_4 rfl (lv_at hl 0 rfl) ?_
      refine lv_iload_n hx hb dX0_runTicks_5 rfl (lv_at hl 3 rfl) ?_
      refine lv_icmp_ge (tgt := 22) hx hb dX0_runTicks_6 (by decide) (fun c_2 => ?_) (fun c_2 => ?_)
      · have c_2 : n ≤ i := (nI_leI (by omega) (by omega)).mp c_2
        omega
      · have c_2 : ¬ (n ≤ i) := fun h => c_2 ((nI_leI (by omega) (by omega)).mpr h)
        refine lv_iload_n hx hb dX0_runTicks_9 rfl (lv_at hl 1 rfl) ?_
        refine lv_aload_n hx hb dX0_runTicks_10 rfl (lv_at hl 2 rfl) ?_
        obtain ⟨z_3, hz_3⟩ : ∃ z, m_X0_tick_u u' = z := ⟨_, rfl⟩
        have hcm_z_3 : CM z_3 := by rw [← hz_3]; exact CM_X0_tick hc'
        obtain ⟨z_4, hz_4⟩ : ∃ z, m_X0_tick_r u' = z := ⟨_, rfl⟩
        have hM_5 := (c_X0_tick l D k a u'  hc')
        rw [hz_3, hz_4] at hM_5
        refine kVi (As := []) (rest := [.int t]) X hW hM_5 yw_X0_tick lk_X0_103 ⟨Nat.le_of_ble_eq_true rfl, Nat.le_of_ble_eq_true rfl⟩ (wr := []) (List.Perm.refl _) (w' := cardW k a z_3) (List.Perm.refl _) (k_rcv X hW (ci := 0) (q0 := 0) rfl rfl) rfl hl.1 rfl (Nat.le_of_ble_eq_true rfl) ⟨Nat.zero_le _, Nat.zero_le _⟩ dX0_runTicks_11 (fun H locs hW => ?_)
        refine lv_iadd hx hb dX0_runTicks_14 ?_
        refine lv_istore_n (lv' := [(2, .int (t + z_4)), (3, .int (nI i)), (0, .ref (a 0)), (1, .int (nI n))]) hx hb dX0_runTicks_15 rfl hl (by decide) rfl (fun ls hl => ?_)
        refine lv_iinc (v := nI (i + 1)) (lv' := [(3, .int (nI (i + 1))), (2, .int (t + z_4)), (0, .ref (a 0)), (1, .int (nI n))]) hx hb dX0_runTicks_16 hl (k := 1) rfl (k_inc _) (by decide) rfl (fun ls hl => ?_)
        refine lv_goto (tgt := 4) hx hb dX0_runTicks_19 (by decide) ?_
        subst hz_4
        subst hz_3
        exact ih (m_X0_tick_u u') (i + 1) _ (CM_X0_tick hc') _ _ _ (by omega) hr hu hW (lv_sub hl [0, 1, 2, 3] rfl)
  exact lp n u 0 (nI 0) hc _ _ _ (by omega) rfl rfl hW (lv_sub hl [0, 1, 2, 3] rfl)
def m_X0_passTicks_r (u : CS) (x : Int32) : Int32 := if x < nI 1 then (-2) else if x ≤ nI 99 then (if (u 0 2) + x ≤ nI 9999 then (m_X0_runTicks_r u (tn x)) else (-5)) else (-2)
def m_X0_passTicks_u (u : CS) (x : Int32) : CS := if x < nI 1 then u else if x ≤ nI 99 then (if (u 0 2) + x ≤ nI 9999 then (m_X0_runTicks_u u (tn x)) else u) else u
set_option maxHeartbeats 4000000 in
set_option maxRecDepth 100000 in
theorem c_X0_passTicks (l : Launch) (D : va_G) (k : Nat → ClassId) (a : Nat → Nat) (u : CS) (x : Int32) (hc : CM u)  : mI l yX0_passTicks (wsY yX0_passTicks cX0_passTicks 2 (some .int)) 6 D k [.ref (a 0), .int x] (cardW k a u) (cardW k a (m_X0_passTicks_u u x)) (m_X0_passTicks_r u x) := by
  refine mI_intro rfl (Nat.le_of_ble_eq_true rfl) (Or.inl rfl) ?_
  intro p e s m args below meth c A Q ls X hW hl hQ
  have hx := X.hx
  have hb := X.hb
  have hl : lv_has ls 2 [(0, .ref (a 0)), (1, .int x)] := hl
  have hc4 := hc.2.1
  refine lv_iload_n hx hb dX0_passTicks_0 rfl (lv_at hl 1 rfl) ?_
  refine lv_iconst (v := nI 1) hx hb dX0_passTicks_1 (by decide +kernel) ?_
  refine lv_icmp_lt (tgt := 11) hx hb dX0_passTicks_2 (by decide) (fun c_1 => ?_) (fun c_1 => ?_)
  · refine lv_bipush (v := (-2)) hx hb dX0_passTicks_11 (by decide +kernel) ?_
    exact hQ _ _ _ _ _ _ hW dX0_passTicks_13 (by rw [m_X0_passTicks_r, if_pos c_1]) (by rw [m_X0_passTicks_u, if_pos c_1])
  · refine lv_iload_n hx hb dX0_passTicks_5 rfl (lv_at hl 1 rfl) ?_
    refine lv_bipush (v := nI 99) hx hb dX0_passTicks_6 (by decide +kernel) ?_
    refine lv_icmp_le (tgt := 14) hx hb dX0_passTicks_8 (by decide) (fun c_2 => ?_) (fun c_2 => ?_)
    · refine lv_aload_n hx hb dX0_passTicks_14 rfl (lv_at hl 0 rfl) ?_
      refine k_get X hW inG0 rfl 2 (by decide) fl_X0_24 rfl 0 rfl (v := .int (u 0 2)) rfl dX0_passTicks_15 ?_
      refine lv_iload_n hx hb dX0_passTicks_18 rfl (lv_at hl 1 rfl) ?_
      refine lv_iadd hx hb dX0_passTicks_19 ?_
      refine lv_sipush (v := nI 9999) hx hb dX0_passTicks_20 (by decide +kernel) ?_
      refine lv_icmp_le (tgt := 29) hx hb dX0_passTicks_23 (by decide) (fun c_3 => ?_) (fun c_3 => ?_)
      · refine lv_aload_n hx hb dX0_passTicks_29 rfl (lv_at hl 0 rfl) ?_
        have hx31 := tn_lt x
        refine lv_iload_n hx hb dX0_passTicks_30 rfl (lv_at hl 1 rfl) ?_
        refine k_top (y := nI (tn x)) (k_ge1 c_1) ?_
        obtain ⟨z_4, hz_4⟩ : ∃ z, m_X0_runTicks_u u (tn x) = z := ⟨_, rfl⟩
        have hcm_z_4 : CM z_4 := by rw [← hz_4]; exact CM_X0_runTicks hc
        obtain ⟨z_5, hz_5⟩ : ∃ z, m_X0_runTicks_r u (tn x) = z := ⟨_, rfl⟩
        have hM_6 := (c_X0_runTicks l D k a u (tn x) hc (by omega))
        rw [hz_4, hz_5] at hM_6
        refine kVi (As := [.int (nI (tn x))]) (rest := []) X hW hM_6 yw_X0_runTicks lk_X0_99 ⟨Nat.le_of_ble_eq_true rfl, Nat.le_of_ble_eq_true rfl⟩ (wr := []) (List.Perm.refl _) (w' := cardW k a z_4) (List.Perm.refl _) (k_rcv X hW (ci := 0) (q0 := 0) rfl rfl) rfl hl.1 rfl (Nat.le_of_ble_eq_true rfl) ⟨Nat.zero_le _, Nat.zero_le _⟩ dX0_passTicks_31 (fun H locs hW => ?_)
        exact hQ _ _ _ _ _ _ hW dX0_passTicks_34 (by subst hz_5; subst hz_4; rw [m_X0_passTicks_r, if_neg c_1, if_pos c_2, if_pos c_3]) (by subst hz_5; subst hz_4; rw [m_X0_passTicks_u, if_neg c_1, if_pos c_2, if_pos c_3])
      · refine lv_bipush (v := (-5)) hx hb dX0_passTicks_26 (by decide +kernel) ?_
        exact hQ _ _ _ _ _ _ hW dX0_passTicks_28 (by rw [m_X0_passTicks_r, if_neg c_1, if_pos c_2, if_neg c_3]) (by rw [m_X0_passTicks_u, if_neg c_1, if_pos c_2, if_neg c_3])
    · refine lv_bipush (v := (-2)) hx hb dX0_passTicks_11 (by decide +kernel) ?_
      exact hQ _ _ _ _ _ _ hW dX0_passTicks_13 (by rw [m_X0_passTicks_r, if_neg c_1, if_neg c_2]) (by rw [m_X0_passTicks_u, if_neg c_1, if_neg c_2])
set_option maxHeartbeats 4000000 in
theorem CM_X0_passTicks {u : CS} {x : Int32} (h : CM u) : CM (m_X0_passTicks_u u x) := by
  rw [m_X0_passTicks_u]
  split
  · exact h
  · split
    · split
      · exact (CM_X0_runTicks h)
      · exact h
    · exact h
end
