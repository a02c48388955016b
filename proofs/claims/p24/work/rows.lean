section
-- ===== PART A: goes FIRST, ahead of the names: the tables' words, and 'selects' of the private methods out of them =====
/-- a private method of a class that the tables say can be made, by its rows of tables_1 -/
def lw_okq (q : MethodName × Nat) : Prop := (q.1.cls ≠ "java/lang/invoke/MethodHandle" ∧ q.1.cls ≠ "java/lang/invoke/VarHandle") ∧ Cond.instantiable q.1.cls q.2 ∈ tables_1 ∧ Cond.privateMethod q.1 ∈ tables_1 ∧ Cond.instanceMethod q.1 ∈ tables_1
theorem lw_p0 : lw_okq (⟨"CoalescedCalls$Card", "total", "(I)I"⟩, 8) := ⟨⟨by decide +kernel, by decide +kernel⟩, List.mem_of_getElem? (i := 17) (by decide +kernel), List.mem_of_getElem? (i := 214) (by decide +kernel), List.mem_of_getElem? (i := 215) (by decide +kernel)⟩
theorem lw_p1 : lw_okq (⟨"CoalescedCalls$Queue", "fact", "(I)I"⟩, 13) := ⟨⟨by decide +kernel, by decide +kernel⟩, List.mem_of_getElem? (i := 29) (by decide +kernel), List.mem_of_getElem? (i := 218) (by decide +kernel), List.mem_of_getElem? (i := 219) (by decide +kernel)⟩
theorem lw_p2 : lw_okq (⟨"CoalescedCalls$Queue", "isCalled", "()Z"⟩, 13) := ⟨⟨by decide +kernel, by decide +kernel⟩, List.mem_of_getElem? (i := 29) (by decide +kernel), List.mem_of_getElem? (i := 222) (by decide +kernel), List.mem_of_getElem? (i := 223) (by decide +kernel)⟩
theorem lw_p3 : lw_okq (⟨"CoalescedCalls$Card", "maskedSet", "()I"⟩, 8) := ⟨⟨by decide +kernel, by decide +kernel⟩, List.mem_of_getElem? (i := 17) (by decide +kernel), List.mem_of_getElem? (i := 226) (by decide +kernel), List.mem_of_getElem? (i := 227) (by decide +kernel)⟩
theorem lw_p4 : lw_okq (⟨"CoalescedCalls$History", "prepare", "(LCoalescedCalls$Card;)V"⟩, 3) := ⟨⟨by decide +kernel, by decide +kernel⟩, List.mem_of_getElem? (i := 119) (by decide +kernel), List.mem_of_getElem? (i := 234) (by decide +kernel), List.mem_of_getElem? (i := 235) (by decide +kernel)⟩
theorem lw_p5 : lw_okq (⟨"CoalescedCalls$Card", "copyFrom", "(LCoalescedCalls$Card;)V"⟩, 8) := ⟨⟨by decide +kernel, by decide +kernel⟩, List.mem_of_getElem? (i := 17) (by decide +kernel), List.mem_of_getElem? (i := 238) (by decide +kernel), List.mem_of_getElem? (i := 239) (by decide +kernel)⟩
theorem lw_p6 : lw_okq (⟨"CoalescedCalls$Queue", "copyFrom", "(LCoalescedCalls$Queue;)V"⟩, 13) := ⟨⟨by decide +kernel, by decide +kernel⟩, List.mem_of_getElem? (i := 29) (by decide +kernel), List.mem_of_getElem? (i := 242) (by decide +kernel), List.mem_of_getElem? (i := 243) (by decide +kernel)⟩
theorem lw_p7 : lw_okq (⟨"CoalescedCalls$Card", "changeSetting", "(II)I"⟩, 8) := ⟨⟨by decide +kernel, by decide +kernel⟩, List.mem_of_getElem? (i := 17) (by decide +kernel), List.mem_of_getElem? (i := 246) (by decide +kernel), List.mem_of_getElem? (i := 247) (by decide +kernel)⟩
theorem lw_p8 : lw_okq (⟨"CoalescedCalls$History", "keepIfDone", "(I)I"⟩, 3) := ⟨⟨by decide +kernel, by decide +kernel⟩, List.mem_of_getElem? (i := 119) (by decide +kernel), List.mem_of_getElem? (i := 254) (by decide +kernel), List.mem_of_getElem? (i := 255) (by decide +kernel)⟩
theorem lw_p9 : lw_okq (⟨"CoalescedCalls$Card", "changeBounds", "(III)I"⟩, 8) := ⟨⟨by decide +kernel, by decide +kernel⟩, List.mem_of_getElem? (i := 17) (by decide +kernel), List.mem_of_getElem? (i := 273) (by decide +kernel), List.mem_of_getElem? (i := 274) (by decide +kernel)⟩
theorem lw_p10 : lw_okq (⟨"CoalescedCalls$Pad", "clear", "()I"⟩, 9) := ⟨⟨by decide +kernel, by decide +kernel⟩, List.mem_of_getElem? (i := 139) (by decide +kernel), List.mem_of_getElem? (i := 282) (by decide +kernel), List.mem_of_getElem? (i := 283) (by decide +kernel)⟩
theorem lw_p11 : lw_okq (⟨"CoalescedCalls$Pad", "append", "(J)I"⟩, 9) := ⟨⟨by decide +kernel, by decide +kernel⟩, List.mem_of_getElem? (i := 139) (by decide +kernel), List.mem_of_getElem? (i := 291) (by decide +kernel), List.mem_of_getElem? (i := 292) (by decide +kernel)⟩
theorem lw_p12 : lw_okq (⟨"CoalescedCalls$Pad", "firstFault", "()I"⟩, 9) := ⟨⟨by decide +kernel, by decide +kernel⟩, List.mem_of_getElem? (i := 139) (by decide +kernel), List.mem_of_getElem? (i := 310) (by decide +kernel), List.mem_of_getElem? (i := 311) (by decide +kernel)⟩
theorem lw_p13 : lw_okq (⟨"CoalescedCalls$Pad", "startReading", "()V"⟩, 9) := ⟨⟨by decide +kernel, by decide +kernel⟩, List.mem_of_getElem? (i := 139) (by decide +kernel), List.mem_of_getElem? (i := 314) (by decide +kernel), List.mem_of_getElem? (i := 315) (by decide +kernel)⟩
theorem lw_p14 : lw_okq (⟨"CoalescedCalls$Pad", "readOrder", "()Z"⟩, 9) := ⟨⟨by decide +kernel, by decide +kernel⟩, List.mem_of_getElem? (i := 139) (by decide +kernel), List.mem_of_getElem? (i := 318) (by decide +kernel), List.mem_of_getElem? (i := 319) (by decide +kernel)⟩
theorem lw_p15 : lw_okq (⟨"CoalescedCalls$Pad", "readSign", "(C)Z"⟩, 9) := ⟨⟨by decide +kernel, by decide +kernel⟩, List.mem_of_getElem? (i := 139) (by decide +kernel), List.mem_of_getElem? (i := 322) (by decide +kernel), List.mem_of_getElem? (i := 323) (by decide +kernel)⟩
def lw_privs_1 : List (MethodName × Nat) := [(⟨"CoalescedCalls$Card", "total", "(I)I"⟩, 8), (⟨"CoalescedCalls$Queue", "fact", "(I)I"⟩, 13), (⟨"CoalescedCalls$Queue", "isCalled", "()Z"⟩, 13), (⟨"CoalescedCalls$Card", "maskedSet", "()I"⟩, 8), (⟨"CoalescedCalls$History", "prepare", "(LCoalescedCalls$Card;)V"⟩, 3), (⟨"CoalescedCalls$Card", "copyFrom", "(LCoalescedCalls$Card;)V"⟩, 8), (⟨"CoalescedCalls$Queue", "copyFrom", "(LCoalescedCalls$Queue;)V"⟩, 13), (⟨"CoalescedCalls$Card", "changeSetting", "(II)I"⟩, 8), (⟨"CoalescedCalls$History", "keepIfDone", "(I)I"⟩, 3), (⟨"CoalescedCalls$Card", "changeBounds", "(III)I"⟩, 8), (⟨"CoalescedCalls$Pad", "clear", "()I"⟩, 9), (⟨"CoalescedCalls$Pad", "append", "(J)I"⟩, 9), (⟨"CoalescedCalls$Pad", "firstFault", "()I"⟩, 9), (⟨"CoalescedCalls$Pad", "startReading", "()V"⟩, 9), (⟨"CoalescedCalls$Pad", "readOrder", "()Z"⟩, 9), (⟨"CoalescedCalls$Pad", "readSign", "(C)Z"⟩, 9)]
theorem lw_r1 : ∀ q ∈ lw_privs_1, lw_okq q := List.forall_mem_cons.mpr ⟨lw_p0, List.forall_mem_cons.mpr ⟨lw_p1, List.forall_mem_cons.mpr ⟨lw_p2, List.forall_mem_cons.mpr ⟨lw_p3, List.forall_mem_cons.mpr ⟨lw_p4, List.forall_mem_cons.mpr ⟨lw_p5, List.forall_mem_cons.mpr ⟨lw_p6, List.forall_mem_cons.mpr ⟨lw_p7, List.forall_mem_cons.mpr ⟨lw_p8, List.forall_mem_cons.mpr ⟨lw_p9, List.forall_mem_cons.mpr ⟨lw_p10, List.forall_mem_cons.mpr ⟨lw_p11, List.forall_mem_cons.mpr ⟨lw_p12, List.forall_mem_cons.mpr ⟨lw_p13, List.forall_mem_cons.mpr ⟨lw_p14, List.forall_mem_cons.mpr ⟨lw_p15, fun _ h => absurd h List.not_mem_nil⟩⟩⟩⟩⟩⟩⟩⟩⟩⟩⟩⟩⟩⟩⟩⟩
theorem lw_p16 : lw_okq (⟨"CoalescedCalls$Pad", "readFrames", "()V"⟩, 9) := ⟨⟨by decide +kernel, by decide +kernel⟩, List.mem_of_getElem? (i := 139) (by decide +kernel), List.mem_of_getElem? (i := 326) (by decide +kernel), List.mem_of_getElem? (i := 327) (by decide +kernel)⟩
theorem lw_p17 : lw_okq (⟨"CoalescedCalls$Pad", "readNumber", "()I"⟩, 9) := ⟨⟨by decide +kernel, by decide +kernel⟩, List.mem_of_getElem? (i := 139) (by decide +kernel), List.mem_of_getElem? (i := 330) (by decide +kernel), List.mem_of_getElem? (i := 331) (by decide +kernel)⟩
theorem lw_p18 : lw_okq (⟨"CoalescedCalls$Pad", "readDigit", "()I"⟩, 9) := ⟨⟨by decide +kernel, by decide +kernel⟩, List.mem_of_getElem? (i := 139) (by decide +kernel), List.mem_of_getElem? (i := 334) (by decide +kernel), List.mem_of_getElem? (i := 335) (by decide +kernel)⟩
theorem lw_p19 : lw_okq (⟨"CoalescedCalls$Pad", "digitStands", "()Z"⟩, 9) := ⟨⟨by decide +kernel, by decide +kernel⟩, List.mem_of_getElem? (i := 139) (by decide +kernel), List.mem_of_getElem? (i := 338) (by decide +kernel), List.mem_of_getElem? (i := 339) (by decide +kernel)⟩
theorem lw_p20 : lw_okq (⟨"CoalescedCalls$Pad", "readBounds", "()V"⟩, 9) := ⟨⟨by decide +kernel, by decide +kernel⟩, List.mem_of_getElem? (i := 139) (by decide +kernel), List.mem_of_getElem? (i := 342) (by decide +kernel), List.mem_of_getElem? (i := 343) (by decide +kernel)⟩
theorem lw_p21 : lw_okq (⟨"CoalescedCalls$Pad", "demand", "(C)V"⟩, 9) := ⟨⟨by decide +kernel, by decide +kernel⟩, List.mem_of_getElem? (i := 139) (by decide +kernel), List.mem_of_getElem? (i := 346) (by decide +kernel), List.mem_of_getElem? (i := 347) (by decide +kernel)⟩
theorem lw_p22 : lw_okq (⟨"CoalescedCalls", "carryOrder", "()I"⟩, 6) := ⟨⟨by decide +kernel, by decide +kernel⟩, List.mem_of_getElem? (i := 9) (by decide +kernel), List.mem_of_getElem? (i := 352) (by decide +kernel), List.mem_of_getElem? (i := 353) (by decide +kernel)⟩
theorem lw_p23 : lw_okq (⟨"CoalescedCalls$Card", "receive", "(I)I"⟩, 8) := ⟨⟨by decide +kernel, by decide +kernel⟩, List.mem_of_getElem? (i := 17) (by decide +kernel), List.mem_of_getElem? (i := 356) (by decide +kernel), List.mem_of_getElem? (i := 357) (by decide +kernel)⟩
theorem lw_p24 : lw_okq (⟨"CoalescedCalls$Card", "passTicks", "(I)I"⟩, 8) := ⟨⟨by decide +kernel, by decide +kernel⟩, List.mem_of_getElem? (i := 17) (by decide +kernel), List.mem_of_getElem? (i := 360) (by decide +kernel), List.mem_of_getElem? (i := 361) (by decide +kernel)⟩
theorem lw_p25 : lw_okq (⟨"CoalescedCalls$Card", "runTicks", "(I)I"⟩, 8) := ⟨⟨by decide +kernel, by decide +kernel⟩, List.mem_of_getElem? (i := 17) (by decide +kernel), List.mem_of_getElem? (i := 364) (by decide +kernel), List.mem_of_getElem? (i := 365) (by decide +kernel)⟩
theorem lw_p26 : lw_okq (⟨"CoalescedCalls$Card", "tick", "()I"⟩, 8) := ⟨⟨by decide +kernel, by decide +kernel⟩, List.mem_of_getElem? (i := 17) (by decide +kernel), List.mem_of_getElem? (i := 368) (by decide +kernel), List.mem_of_getElem? (i := 369) (by decide +kernel)⟩
theorem lw_p27 : lw_okq (⟨"CoalescedCalls$Card", "poll", "()I"⟩, 8) := ⟨⟨by decide +kernel, by decide +kernel⟩, List.mem_of_getElem? (i := 17) (by decide +kernel), List.mem_of_getElem? (i := 372) (by decide +kernel), List.mem_of_getElem? (i := 373) (by decide +kernel)⟩
theorem lw_p28 : lw_okq (⟨"CoalescedCalls$Card", "queueAt", "(I)I"⟩, 8) := ⟨⟨by decide +kernel, by decide +kernel⟩, List.mem_of_getElem? (i := 17) (by decide +kernel), List.mem_of_getElem? (i := 376) (by decide +kernel), List.mem_of_getElem? (i := 377) (by decide +kernel)⟩
theorem lw_p29 : lw_okq (⟨"CoalescedCalls$Card", "hasFrame", "(I)Z"⟩, 8) := ⟨⟨by decide +kernel, by decide +kernel⟩, List.mem_of_getElem? (i := 17) (by decide +kernel), List.mem_of_getElem? (i := 381) (by decide +kernel), List.mem_of_getElem? (i := 382) (by decide +kernel)⟩
theorem lw_p30 : lw_okq (⟨"CoalescedCalls$Card", "takeOldest", "(LCoalescedCalls$Queue;I)V"⟩, 8) := ⟨⟨by decide +kernel, by decide +kernel⟩, List.mem_of_getElem? (i := 17) (by decide +kernel), List.mem_of_getElem? (i := 385) (by decide +kernel), List.mem_of_getElem? (i := 386) (by decide +kernel)⟩
theorem lw_p31 : lw_okq (⟨"CoalescedCalls$Queue", "noteTaken", "(I)V"⟩, 13) := ⟨⟨by decide +kernel, by decide +kernel⟩, List.mem_of_getElem? (i := 29) (by decide +kernel), List.mem_of_getElem? (i := 389) (by decide +kernel), List.mem_of_getElem? (i := 390) (by decide +kernel)⟩
def lw_privs_2 : List (MethodName × Nat) := [(⟨"CoalescedCalls$Pad", "readFrames", "()V"⟩, 9), (⟨"CoalescedCalls$Pad", "readNumber", "()I"⟩, 9), (⟨"CoalescedCalls$Pad", "readDigit", "()I"⟩, 9), (⟨"CoalescedCalls$Pad", "digitStands", "()Z"⟩, 9), (⟨"CoalescedCalls$Pad", "readBounds", "()V"⟩, 9), (⟨"CoalescedCalls$Pad", "demand", "(C)V"⟩, 9), (⟨"CoalescedCalls", "carryOrder", "()I"⟩, 6), (⟨"CoalescedCalls$Card", "receive", "(I)I"⟩, 8), (⟨"CoalescedCalls$Card", "passTicks", "(I)I"⟩, 8), (⟨"CoalescedCalls$Card", "runTicks", "(I)I"⟩, 8), (⟨"CoalescedCalls$Card", "tick", "()I"⟩, 8), (⟨"CoalescedCalls$Card", "poll", "()I"⟩, 8), (⟨"CoalescedCalls$Card", "queueAt", "(I)I"⟩, 8), (⟨"CoalescedCalls$Card", "hasFrame", "(I)Z"⟩, 8), (⟨"CoalescedCalls$Card", "takeOldest", "(LCoalescedCalls$Queue;I)V"⟩, 8), (⟨"CoalescedCalls$Queue", "noteTaken", "(I)V"⟩, 13)]
theorem lw_r2 : ∀ q ∈ lw_privs_2, lw_okq q := List.forall_mem_cons.mpr ⟨lw_p16, List.forall_mem_cons.mpr ⟨lw_p17, List.forall_mem_cons.mpr ⟨lw_p18, List.forall_mem_cons.mpr ⟨lw_p19, List.forall_mem_cons.mpr ⟨lw_p20, List.forall_mem_cons.mpr ⟨lw_p21, List.forall_mem_cons.mpr ⟨lw_p22, List.forall_mem_cons.mpr ⟨lw_p23, List.forall_mem_cons.mpr ⟨lw_p24, List.forall_mem_cons.mpr ⟨lw_p25, List.forall_mem_cons.mpr ⟨lw_p26, List.forall_mem_cons.mpr ⟨lw_p27, List.forall_mem_cons.mpr ⟨lw_p28, List.forall_mem_cons.mpr ⟨lw_p29, List.forall_mem_cons.mpr ⟨lw_p30, List.forall_mem_cons.mpr ⟨lw_p31, fun _ h => absurd h List.not_mem_nil⟩⟩⟩⟩⟩⟩⟩⟩⟩⟩⟩⟩⟩⟩⟩⟩
theorem lw_p32 : lw_okq (⟨"CoalescedCalls$Card", "leaveRow", "(LCoalescedCalls$Queue;)V"⟩, 8) := ⟨⟨by decide +kernel, by decide +kernel⟩, List.mem_of_getElem? (i := 17) (by decide +kernel), List.mem_of_getElem? (i := 393) (by decide +kernel), List.mem_of_getElem? (i := 394) (by decide +kernel)⟩
theorem lw_p33 : lw_okq (⟨"CoalescedCalls$Queue", "becomeIdle", "(Z)V"⟩, 13) := ⟨⟨by decide +kernel, by decide +kernel⟩, List.mem_of_getElem? (i := 29) (by decide +kernel), List.mem_of_getElem? (i := 397) (by decide +kernel), List.mem_of_getElem? (i := 398) (by decide +kernel)⟩
theorem lw_p34 : lw_okq (⟨"CoalescedCalls$Card", "rowLength", "()I"⟩, 8) := ⟨⟨by decide +kernel, by decide +kernel⟩, List.mem_of_getElem? (i := 17) (by decide +kernel), List.mem_of_getElem? (i := 405) (by decide +kernel), List.mem_of_getElem? (i := 406) (by decide +kernel)⟩
theorem lw_p35 : lw_okq (⟨"CoalescedCalls$Card", "whySilent", "(LCoalescedCalls$Queue;)I"⟩, 8) := ⟨⟨by decide +kernel, by decide +kernel⟩, List.mem_of_getElem? (i := 17) (by decide +kernel), List.mem_of_getElem? (i := 409) (by decide +kernel), List.mem_of_getElem? (i := 410) (by decide +kernel)⟩
theorem lw_p36 : lw_okq (⟨"CoalescedCalls$Card", "enterRow", "(LCoalescedCalls$Queue;)V"⟩, 8) := ⟨⟨by decide +kernel, by decide +kernel⟩, List.mem_of_getElem? (i := 17) (by decide +kernel), List.mem_of_getElem? (i := 413) (by decide +kernel), List.mem_of_getElem? (i := 414) (by decide +kernel)⟩
theorem lw_p37 : lw_okq (⟨"CoalescedCalls$Card", "changeMask", "(I)I"⟩, 8) := ⟨⟨by decide +kernel, by decide +kernel⟩, List.mem_of_getElem? (i := 17) (by decide +kernel), List.mem_of_getElem? (i := 417) (by decide +kernel), List.mem_of_getElem? (i := 418) (by decide +kernel)⟩
theorem lw_p38 : lw_okq (⟨"CoalescedCalls$Card", "callByHand", "(I)I"⟩, 8) := ⟨⟨by decide +kernel, by decide +kernel⟩, List.mem_of_getElem? (i := 17) (by decide +kernel), List.mem_of_getElem? (i := 433) (by decide +kernel), List.mem_of_getElem? (i := 434) (by decide +kernel)⟩
theorem lw_p39 : lw_okq (⟨"CoalescedCalls$Card", "frameFact", "(II)I"⟩, 8) := ⟨⟨by decide +kernel, by decide +kernel⟩, List.mem_of_getElem? (i := 17) (by decide +kernel), List.mem_of_getElem? (i := 483) (by decide +kernel), List.mem_of_getElem? (i := 484) (by decide +kernel)⟩
theorem lw_p40 : lw_okq (⟨"CoalescedCalls$Card", "waitOf", "(I)I"⟩, 8) := ⟨⟨by decide +kernel, by decide +kernel⟩, List.mem_of_getElem? (i := 17) (by decide +kernel), List.mem_of_getElem? (i := 487) (by decide +kernel), List.mem_of_getElem? (i := 488) (by decide +kernel)⟩
theorem lw_p41 : lw_okq (⟨"CoalescedCalls", "trialCost", "(III)I"⟩, 6) := ⟨⟨by decide +kernel, by decide +kernel⟩, List.mem_of_getElem? (i := 9) (by decide +kernel), List.mem_of_getElem? (i := 495) (by decide +kernel), List.mem_of_getElem? (i := 496) (by decide +kernel)⟩
theorem lw_p42 : lw_okq (⟨"CoalescedCalls$Card", "emptyLike", "(LCoalescedCalls$Card;)V"⟩, 8) := ⟨⟨by decide +kernel, by decide +kernel⟩, List.mem_of_getElem? (i := 17) (by decide +kernel), List.mem_of_getElem? (i := 499) (by decide +kernel), List.mem_of_getElem? (i := 500) (by decide +kernel)⟩
theorem lw_p43 : lw_okq (⟨"CoalescedCalls$Queue", "emptyLike", "(LCoalescedCalls$Queue;)V"⟩, 13) := ⟨⟨by decide +kernel, by decide +kernel⟩, List.mem_of_getElem? (i := 29) (by decide +kernel), List.mem_of_getElem? (i := 503) (by decide +kernel), List.mem_of_getElem? (i := 504) (by decide +kernel)⟩
def lw_privs_3 : List (MethodName × Nat) := [(⟨"CoalescedCalls$Card", "leaveRow", "(LCoalescedCalls$Queue;)V"⟩, 8), (⟨"CoalescedCalls$Queue", "becomeIdle", "(Z)V"⟩, 13), (⟨"CoalescedCalls$Card", "rowLength", "()I"⟩, 8), (⟨"CoalescedCalls$Card", "whySilent", "(LCoalescedCalls$Queue;)I"⟩, 8), (⟨"CoalescedCalls$Card", "enterRow", "(LCoalescedCalls$Queue;)V"⟩, 8), (⟨"CoalescedCalls$Card", "changeMask", "(I)I"⟩, 8), (⟨"CoalescedCalls$Card", "callByHand", "(I)I"⟩, 8), (⟨"CoalescedCalls$Card", "frameFact", "(II)I"⟩, 8), (⟨"CoalescedCalls$Card", "waitOf", "(I)I"⟩, 8), (⟨"CoalescedCalls", "trialCost", "(III)I"⟩, 6), (⟨"CoalescedCalls$Card", "emptyLike", "(LCoalescedCalls$Card;)V"⟩, 8), (⟨"CoalescedCalls$Queue", "emptyLike", "(LCoalescedCalls$Queue;)V"⟩, 13)]
theorem lw_r3 : ∀ q ∈ lw_privs_3, lw_okq q := List.forall_mem_cons.mpr ⟨lw_p32, List.forall_mem_cons.mpr ⟨lw_p33, List.forall_mem_cons.mpr ⟨lw_p34, List.forall_mem_cons.mpr ⟨lw_p35, List.forall_mem_cons.mpr ⟨lw_p36, List.forall_mem_cons.mpr ⟨lw_p37, List.forall_mem_cons.mpr ⟨lw_p38, List.forall_mem_cons.mpr ⟨lw_p39, List.forall_mem_cons.mpr ⟨lw_p40, List.forall_mem_cons.mpr ⟨lw_p41, List.forall_mem_cons.mpr ⟨lw_p42, List.forall_mem_cons.mpr ⟨lw_p43, fun _ h => absurd h List.not_mem_nil⟩⟩⟩⟩⟩⟩⟩⟩⟩⟩⟩⟩
def lw_privs : List (MethodName × Nat) := lw_privs_1 ++ (lw_privs_2 ++ (lw_privs_3))
def lw_tbl : List Cond := k2_sels lw_privs ++ tables_1
theorem lw_privs_ok : ∀ q ∈ lw_privs, lw_okq q := by
  show ∀ q ∈ lw_privs_1 ++ (lw_privs_2 ++ (lw_privs_3)), lw_okq q
  exact List.forall_mem_append.mpr ⟨lw_r1, List.forall_mem_append.mpr ⟨lw_r2, lw_r3⟩⟩
end
section
def RX0 : String := "CoalescedCalls$Card"
def TX0 : u_T := fun k => match k with
  | 0 => ("CoalescedCalls$Card", "settings", "[I", true)
  | 1 => ("CoalescedCalls$Card", "queues", "[LCoalescedCalls$Queue;", true)
  | 2 => ("CoalescedCalls$Card", "time", "I", false)
  | 3 => ("CoalescedCalls$Card", "came", "I", false)
  | 4 => ("CoalescedCalls$Card", "flow", "[I", true)
  | 5 => ("CoalescedCalls$Card", "cameAt", "[I", true)
  | 6 => ("CoalescedCalls$Card", "how", "[I", true)
  | _ => ("CoalescedCalls$Card", "takenAt", "[I", true)
def tyX0 : Nat → FieldType := fun k => match k with
  | 0 => .array .int
  | 1 => .array (.object "CoalescedCalls$Queue")
  | 2 => .int
  | 3 => .int
  | 4 => .array .int
  | 5 => .array .int
  | 6 => .array .int
  | _ => .array .int
abbrev wsX00 : List Cond := u_ws RX0 TX0 8
theorem nmX0 : ∀ a, a < 8 → ∀ b, b < 8 → a ≠ b → (TX0 a).2.1 ≠ (TX0 b).2.1 := by decide +kernel
theorem tyX0_ok : ∀ k, k < 8 → parseFieldDescriptor (TX0 k).2.2.1 = some (tyX0 k) := by decide +kernel
abbrev cX0_init : ByteArray := prog_2_method_1_code
def yX0_init : MethodName := ⟨RX0, "<init>", "()V"⟩
abbrev cX0_copyFrom : ByteArray := prog_2_method_2_code
def yX0_copyFrom : MethodName := ⟨RX0, "copyFrom", "(LCoalescedCalls$Card;)V"⟩
abbrev cX0_emptyLike : ByteArray := prog_2_method_3_code
def yX0_emptyLike : MethodName := ⟨RX0, "emptyLike", "(LCoalescedCalls$Card;)V"⟩
abbrev cX0_changeSetting : ByteArray := prog_2_method_4_code
def yX0_changeSetting : MethodName := ⟨RX0, "changeSetting", "(II)I"⟩
abbrev cX0_changeBounds : ByteArray := prog_2_method_5_code
def yX0_changeBounds : MethodName := ⟨RX0, "changeBounds", "(III)I"⟩
abbrev cX0_receive : ByteArray := prog_2_method_6_code
def yX0_receive : MethodName := ⟨RX0, "receive", "(I)I"⟩
abbrev cX0_changeMask : ByteArray := prog_2_method_7_code
def yX0_changeMask : MethodName := ⟨RX0, "changeMask", "(I)I"⟩
abbrev cX0_callByHand : ByteArray := prog_2_method_8_code
def yX0_callByHand : MethodName := ⟨RX0, "callByHand", "(I)I"⟩
abbrev cX0_passTicks : ByteArray := prog_2_method_9_code
def yX0_passTicks : MethodName := ⟨RX0, "passTicks", "(I)I"⟩
abbrev cX0_runTicks : ByteArray := prog_2_method_10_code
def yX0_runTicks : MethodName := ⟨RX0, "runTicks", "(I)I"⟩
abbrev cX0_tick : ByteArray := prog_2_method_11_code
def yX0_tick : MethodName := ⟨RX0, "tick", "()I"⟩
abbrev cX0_poll : ByteArray := prog_2_method_12_code
def yX0_poll : MethodName := ⟨RX0, "poll", "()I"⟩
abbrev cX0_takeOldest : ByteArray := prog_2_method_13_code
def yX0_takeOldest : MethodName := ⟨RX0, "takeOldest", "(LCoalescedCalls$Queue;I)V"⟩
abbrev cX0_whySilent : ByteArray := prog_2_method_14_code
def yX0_whySilent : MethodName := ⟨RX0, "whySilent", "(LCoalescedCalls$Queue;)I"⟩
abbrev cX0_enterRow : ByteArray := prog_2_method_15_code
def yX0_enterRow : MethodName := ⟨RX0, "enterRow", "(LCoalescedCalls$Queue;)V"⟩
abbrev cX0_leaveRow : ByteArray := prog_2_method_16_code
def yX0_leaveRow : MethodName := ⟨RX0, "leaveRow", "(LCoalescedCalls$Queue;)V"⟩
abbrev cX0_rowLength : ByteArray := prog_2_method_17_code
def yX0_rowLength : MethodName := ⟨RX0, "rowLength", "()I"⟩
abbrev cX0_queueAt : ByteArray := prog_2_method_18_code
def yX0_queueAt : MethodName := ⟨RX0, "queueAt", "(I)I"⟩
abbrev cX0_hasFrame : ByteArray := prog_2_method_19_code
def yX0_hasFrame : MethodName := ⟨RX0, "hasFrame", "(I)Z"⟩
abbrev cX0_frameFact : ByteArray := prog_2_method_20_code
def yX0_frameFact : MethodName := ⟨RX0, "frameFact", "(II)I"⟩
abbrev cX0_waitOf : ByteArray := prog_2_method_21_code
def yX0_waitOf : MethodName := ⟨RX0, "waitOf", "(I)I"⟩
abbrev cX0_total : ByteArray := prog_2_method_22_code
def yX0_total : MethodName := ⟨RX0, "total", "(I)I"⟩
abbrev cX0_maskedSet : ByteArray := prog_2_method_23_code
def yX0_maskedSet : MethodName := ⟨RX0, "maskedSet", "()I"⟩
def RX1 : String := "CoalescedCalls$History"
def TX1 : u_T := fun k => match k with
  | 0 => ("CoalescedCalls$History", "states", "[LCoalescedCalls$Card;", true)
  | 1 => ("CoalescedCalls$History", "next", "I", false)
  | _ => ("CoalescedCalls$History", "size", "I", false)
def tyX1 : Nat → FieldType := fun k => match k with
  | 0 => .array (.object "CoalescedCalls$Card")
  | 1 => .int
  | _ => .int
abbrev wsX10 : List Cond := u_ws RX1 TX1 3
theorem nmX1 : ∀ a, a < 3 → ∀ b, b < 3 → a ≠ b → (TX1 a).2.1 ≠ (TX1 b).2.1 := by decide +kernel
theorem tyX1_ok : ∀ k, k < 3 → parseFieldDescriptor (TX1 k).2.2.1 = some (tyX1 k) := by decide +kernel
abbrev cX1_init : ByteArray := prog_3_method_1_code
def yX1_init : MethodName := ⟨RX1, "<init>", "()V"⟩
abbrev cX1_prepare : ByteArray := prog_3_method_2_code
def yX1_prepare : MethodName := ⟨RX1, "prepare", "(LCoalescedCalls$Card;)V"⟩
abbrev cX1_keepIfDone : ByteArray := prog_3_method_3_code
def yX1_keepIfDone : MethodName := ⟨RX1, "keepIfDone", "(I)I"⟩
def RX2 : String := "CoalescedCalls$Pad"
def TX2 : u_T := fun k => match k with
  | 0 => ("CoalescedCalls$Pad", "signs", "[C", true)
  | 1 => ("CoalescedCalls$Pad", "length", "I", false)
  | 2 => ("CoalescedCalls$Pad", "at", "I", false)
  | 3 => ("CoalescedCalls$Pad", "broken", "Z", false)
  | 4 => ("CoalescedCalls$Pad", "kind", "C", false)
  | 5 => ("CoalescedCalls$Pad", "first", "I", false)
  | 6 => ("CoalescedCalls$Pad", "second", "I", false)
  | 7 => ("CoalescedCalls$Pad", "third", "I", false)
  | _ => ("CoalescedCalls$Pad", "times", "I", false)
def tyX2 : Nat → FieldType := fun k => match k with
  | 0 => .array .char
  | 1 => .int
  | 2 => .int
  | 3 => .boolean
  | 4 => .char
  | 5 => .int
  | 6 => .int
  | 7 => .int
  | _ => .int
abbrev wsX20 : List Cond := u_ws RX2 TX2 9
theorem nmX2 : ∀ a, a < 9 → ∀ b, b < 9 → a ≠ b → (TX2 a).2.1 ≠ (TX2 b).2.1 := by decide +kernel
theorem tyX2_ok : ∀ k, k < 9 → parseFieldDescriptor (TX2 k).2.2.1 = some (tyX2 k) := by decide +kernel
abbrev cX2_init : ByteArray := prog_4_method_1_code
def yX2_init : MethodName := ⟨RX2, "<init>", "()V"⟩
abbrev cX2_append : ByteArray := prog_4_method_2_code
def yX2_append : MethodName := ⟨RX2, "append", "(J)I"⟩
abbrev cX2_sizeOf : ByteArray := prog_4_method_3_code
def yX2_sizeOf : MethodName := ⟨RX2, "sizeOf", "(J)I"⟩
abbrev cX2_clear : ByteArray := prog_4_method_4_code
def yX2_clear : MethodName := ⟨RX2, "clear", "()I"⟩
abbrev cX2_firstFault : ByteArray := prog_4_method_5_code
def yX2_firstFault : MethodName := ⟨RX2, "firstFault", "()I"⟩
abbrev cX2_startReading : ByteArray := prog_4_method_6_code
def yX2_startReading : MethodName := ⟨RX2, "startReading", "()V"⟩
abbrev cX2_readOrder : ByteArray := prog_4_method_7_code
def yX2_readOrder : MethodName := ⟨RX2, "readOrder", "()Z"⟩
abbrev cX2_readFrames : ByteArray := prog_4_method_8_code
def yX2_readFrames : MethodName := ⟨RX2, "readFrames", "()V"⟩
abbrev cX2_readBounds : ByteArray := prog_4_method_9_code
def yX2_readBounds : MethodName := ⟨RX2, "readBounds", "()V"⟩
abbrev cX2_readNumber : ByteArray := prog_4_method_10_code
def yX2_readNumber : MethodName := ⟨RX2, "readNumber", "()I"⟩
abbrev cX2_readDigit : ByteArray := prog_4_method_11_code
def yX2_readDigit : MethodName := ⟨RX2, "readDigit", "()I"⟩
abbrev cX2_demand : ByteArray := prog_4_method_12_code
def yX2_demand : MethodName := ⟨RX2, "demand", "(C)V"⟩
abbrev cX2_readSign : ByteArray := prog_4_method_13_code
def yX2_readSign : MethodName := ⟨RX2, "readSign", "(C)Z"⟩
abbrev cX2_digitStands : ByteArray := prog_4_method_14_code
def yX2_digitStands : MethodName := ⟨RX2, "digitStands", "()Z"⟩
def RX3 : String := "CoalescedCalls$Queue"
def TX3 : u_T := fun k => match k with
  | 0 => ("CoalescedCalls$Queue", "count", "I", false)
  | 1 => ("CoalescedCalls$Queue", "wait", "I", false)
  | 2 => ("CoalescedCalls$Queue", "inUse", "I", false)
  | 3 => ("CoalescedCalls$Queue", "place", "I", false)
  | 4 => ("CoalescedCalls$Queue", "masked", "Z", false)
  | 5 => ("CoalescedCalls$Queue", "inRing", "I", false)
  | 6 => ("CoalescedCalls$Queue", "oldest", "I", false)
  | 7 => ("CoalescedCalls$Queue", "calls", "I", false)
  | 8 => ("CoalescedCalls$Queue", "taken", "I", false)
  | 9 => ("CoalescedCalls$Queue", "dropped", "I", false)
  | 10 => ("CoalescedCalls$Queue", "waited", "I", false)
  | 11 => ("CoalescedCalls$Queue", "longest", "I", false)
  | _ => ("CoalescedCalls$Queue", "sinceCall", "I", false)
def tyX3 : Nat → FieldType := fun k => match k with
  | 0 => .int
  | 1 => .int
  | 2 => .int
  | 3 => .int
  | 4 => .boolean
  | 5 => .int
  | 6 => .int
  | 7 => .int
  | 8 => .int
  | 9 => .int
  | 10 => .int
  | 11 => .int
  | _ => .int
abbrev wsX30 : List Cond := u_ws RX3 TX3 13
theorem nmX3 : ∀ a, a < 13 → ∀ b, b < 13 → a ≠ b → (TX3 a).2.1 ≠ (TX3 b).2.1 := by decide +kernel
theorem tyX3_ok : ∀ k, k < 13 → parseFieldDescriptor (TX3 k).2.2.1 = some (tyX3 k) := by decide +kernel
abbrev cX3_init : ByteArray := prog_5_method_1_code
def yX3_init : MethodName := ⟨RX3, "<init>", "()V"⟩
abbrev cX3_copyFrom : ByteArray := prog_5_method_2_code
def yX3_copyFrom : MethodName := ⟨RX3, "copyFrom", "(LCoalescedCalls$Queue;)V"⟩
abbrev cX3_emptyLike : ByteArray := prog_5_method_3_code
def yX3_emptyLike : MethodName := ⟨RX3, "emptyLike", "(LCoalescedCalls$Queue;)V"⟩
abbrev cX3_isCalled : ByteArray := prog_5_method_4_code
def yX3_isCalled : MethodName := ⟨RX3, "isCalled", "()Z"⟩
abbrev cX3_noteTaken : ByteArray := prog_5_method_5_code
def yX3_noteTaken : MethodName := ⟨RX3, "noteTaken", "(I)V"⟩
abbrev cX3_becomeIdle : ByteArray := prog_5_method_6_code
def yX3_becomeIdle : MethodName := ⟨RX3, "becomeIdle", "(Z)V"⟩
abbrev cX3_fact : ByteArray := prog_5_method_7_code
def yX3_fact : MethodName := ⟨RX3, "fact", "(I)I"⟩
def RX4 : String := "CoalescedCalls"
def TX4 : u_T := fun k => match k with
  | 0 => ("CoalescedCalls", "card", "LCoalescedCalls$Card;", true)
  | 1 => ("CoalescedCalls", "probe", "LCoalescedCalls$Card;", true)
  | 2 => ("CoalescedCalls", "slots", "[LCoalescedCalls$Card;", true)
  | 3 => ("CoalescedCalls", "saved", "[Z", true)
  | 4 => ("CoalescedCalls", "history", "LCoalescedCalls$History;", true)
  | _ => ("CoalescedCalls", "pad", "LCoalescedCalls$Pad;", true)
def tyX4 : Nat → FieldType := fun k => match k with
  | 0 => .object "CoalescedCalls$Card"
  | 1 => .object "CoalescedCalls$Card"
  | 2 => .array (.object "CoalescedCalls$Card")
  | 3 => .array .boolean
  | 4 => .object "CoalescedCalls$History"
  | _ => .object "CoalescedCalls$Pad"
abbrev wsX40 : List Cond := u_ws RX4 TX4 6
theorem nmX4 : ∀ a, a < 6 → ∀ b, b < 6 → a ≠ b → (TX4 a).2.1 ≠ (TX4 b).2.1 := by decide +kernel
theorem tyX4_ok : ∀ k, k < 6 → parseFieldDescriptor (TX4 k).2.2.1 = some (tyX4 k) := by decide +kernel
abbrev cX4_init : ByteArray := prog_1_method_1_code
def yX4_init : MethodName := ⟨RX4, "<init>", "()V"⟩
abbrev cX4_set : ByteArray := prog_1_method_2_code
def yX4_set : MethodName := ⟨RX4, "set", "(II)I"⟩
abbrev cX4_bounds : ByteArray := prog_1_method_3_code
def yX4_bounds : MethodName := ⟨RX4, "bounds", "(III)I"⟩
abbrev cX4_come : ByteArray := prog_1_method_4_code
def yX4_come : MethodName := ⟨RX4, "come", "(I)I"⟩
abbrev cX4_mask : ByteArray := prog_1_method_5_code
def yX4_mask : MethodName := ⟨RX4, "mask", "(I)I"⟩
abbrev cX4_call : ByteArray := prog_1_method_6_code
def yX4_call : MethodName := ⟨RX4, "call", "(I)I"⟩
abbrev cX4_pass : ByteArray := prog_1_method_7_code
def yX4_pass : MethodName := ⟨RX4, "pass", "(I)I"⟩
abbrev cX4_of : ByteArray := prog_1_method_8_code
def yX4_of : MethodName := ⟨RX4, "of", "(II)I"⟩
abbrev cX4_frame : ByteArray := prog_1_method_9_code
def yX4_frame : MethodName := ⟨RX4, "frame", "(II)I"⟩
abbrev cX4_row : ByteArray := prog_1_method_10_code
def yX4_row : MethodName := ⟨RX4, "row", "(I)I"⟩
abbrev cX4_count : ByteArray := prog_1_method_11_code
def yX4_count : MethodName := ⟨RX4, "count", "(I)I"⟩
abbrev cX4_why : ByteArray := prog_1_method_12_code
def yX4_why : MethodName := ⟨RX4, "why", "(I)I"⟩
abbrev cX4_takenIn : ByteArray := prog_1_method_13_code
def yX4_takenIn : MethodName := ⟨RX4, "takenIn", "(I)I"⟩
abbrev cX4_would : ByteArray := prog_1_method_14_code
def yX4_would : MethodName := ⟨RX4, "would", "(II)I"⟩
abbrev cX4_bestCount : ByteArray := prog_1_method_15_code
def yX4_bestCount : MethodName := ⟨RX4, "bestCount", "(III)I"⟩
abbrev cX4_put : ByteArray := prog_1_method_16_code
def yX4_put : MethodName := ⟨RX4, "put", "(J)I"⟩
abbrev cX4_wipe : ByteArray := prog_1_method_17_code
def yX4_wipe : MethodName := ⟨RX4, "wipe", "()I"⟩
abbrev cX4_carryOut : ByteArray := prog_1_method_19_code
def yX4_carryOut : MethodName := ⟨RX4, "carryOut", "()I"⟩
abbrev cX4_save : ByteArray := prog_1_method_21_code
def yX4_save : MethodName := ⟨RX4, "save", "(I)I"⟩
abbrev cX4_restore : ByteArray := prog_1_method_22_code
def yX4_restore : MethodName := ⟨RX4, "restore", "(I)I"⟩
abbrev cX4_isQueue : ByteArray := prog_1_method_23_code
def yX4_isQueue : MethodName := ⟨RX4, "isQueue", "(I)Z"⟩
abbrev cX4_isSlot : ByteArray := prog_1_method_24_code
def yX4_isSlot : MethodName := ⟨RX4, "isSlot", "(I)Z"⟩
abbrev cX4_trialCost : ByteArray := prog_1_method_25_code
def yX4_trialCost : MethodName := ⟨RX4, "trialCost", "(III)I"⟩
abbrev cX4_carryOrder : ByteArray := prog_1_method_26_code
def yX4_carryOrder : MethodName := ⟨RX4, "carryOrder", "()I"⟩
def RX5 : String := "CoalescedCallsModel"
def TX5 : u_T := fun k => match k with
  | _ => ("", "", "", false)
def tyX5 : Nat → FieldType := fun k => match k with
  | _ => .int
abbrev wsX50 : List Cond := u_ws RX5 TX5 0
theorem nmX5 : ∀ a, a < 0 → ∀ b, b < 0 → a ≠ b → (TX5 a).2.1 ≠ (TX5 b).2.1 := by decide +kernel
theorem tyX5_ok : ∀ k, k < 0 → parseFieldDescriptor (TX5 k).2.2.1 = some (tyX5 k) := by decide +kernel
def RJ9 : String := "java/lang/Math"
def TJ9 : u_T := fun k => match k with
  | _ => ("", "", "", false)
def tyJ9 : Nat → FieldType := fun k => match k with
  | _ => .int
def RJ10 : String := "java/lang/System"
def TJ10 : u_T := fun k => match k with
  | _ => ("", "", "", false)
def tyJ10 : Nat → FieldType := fun k => match k with
  | _ => .int
def RL : String := "CoalescedCallsLaw"
abbrev cL_cell : ByteArray := method_2_code
def yL_cell : MethodName := ⟨RL, "cell", "([II)I"⟩
abbrev cL_up : ByteArray := method_3_code
def yL_up : MethodName := ⟨RL, "up", "(II)I"⟩
abbrev cL_number : ByteArray := method_4_code
def yL_number : MethodName := ⟨RL, "number", "(LCoalescedCalls;I)Z"⟩
abbrev cL_sum : ByteArray := method_5_code
def yL_sum : MethodName := ⟨RL, "sum", "(LCoalescedCalls;I)I"⟩
abbrev cL_isStep : ByteArray := method_6_code
def yL_isStep : MethodName := ⟨RL, "isStep", "(LCoalescedCalls;LCoalescedCalls;II)Z"⟩
abbrev cL_areAlike : ByteArray := method_7_code
def yL_areAlike : MethodName := ⟨RL, "areAlike", "(LCoalescedCalls;LCoalescedCalls;I)Z"⟩
abbrev cL_isWell : ByteArray := method_8_code
def yL_isWell : MethodName := ⟨RL, "isWell", "(LCoalescedCalls;)Z"⟩
abbrev cL_law : ByteArray := code
def yL_law : MethodName := ⟨RL, "law", "([I)Z"⟩
abbrev vwCl : List vw_C := [(RX0, TX0, 8), (RX1, TX1, 3), (RX2, TX2, 9), (RX3, TX3, 13), (RX4, TX4, 6)]
end
section
theorem dX0_init_0 : decode cX0_init 0 = .ok (.aload_n 0, 1) := by decide +kernel
theorem dX0_init_1 : decode cX0_init 1 = .ok (.invokespecial 3, 3) := by decide +kernel
theorem dX0_init_4 : decode cX0_init 4 = .ok (.aload_n 0, 1) := by decide +kernel
theorem dX0_init_5 : decode cX0_init 5 = .ok (.getstatic 9, 3) := by decide +kernel
theorem dX0_init_8 : decode cX0_init 8 = .ok (.arraylength, 1) := by decide +kernel
theorem dX0_init_9 : decode cX0_init 9 = .ok (.newarray .int, 2) := by decide +kernel
theorem dX0_init_11 : decode cX0_init 11 = .ok (.putfield 13, 3) := by decide +kernel
theorem dX0_init_14 : decode cX0_init 14 = .ok (.aload_n 0, 1) := by decide +kernel
theorem dX0_init_15 : decode cX0_init 15 = .ok (.iconst 3, 1) := by decide +kernel
theorem dX0_init_16 : decode cX0_init 16 = .ok (.anewarray 18, 3) := by decide +kernel
theorem dX0_init_19 : decode cX0_init 19 = .ok (.putfield 20, 3) := by decide +kernel
theorem dX0_init_22 : decode cX0_init 22 = .ok (.aload_n 0, 1) := by decide +kernel
theorem dX0_init_23 : decode cX0_init 23 = .ok (.iconst 0, 1) := by decide +kernel
theorem dX0_init_24 : decode cX0_init 24 = .ok (.putfield 24, 3) := by decide +kernel
theorem dX0_init_27 : decode cX0_init 27 = .ok (.aload_n 0, 1) := by decide +kernel
theorem dX0_init_28 : decode cX0_init 28 = .ok (.iconst 0, 1) := by decide +kernel
theorem dX0_init_29 : decode cX0_init 29 = .ok (.putfield 28, 3) := by decide +kernel
theorem dX0_init_32 : decode cX0_init 32 = .ok (.aload_n 0, 1) := by decide +kernel
theorem dX0_init_33 : decode cX0_init 33 = .ok (.sipush 400, 3) := by decide +kernel
theorem dX0_init_36 : decode cX0_init 36 = .ok (.newarray .int, 2) := by decide +kernel
theorem dX0_init_38 : decode cX0_init 38 = .ok (.putfield 31, 3) := by decide +kernel
theorem dX0_init_41 : decode cX0_init 41 = .ok (.aload_n 0, 1) := by decide +kernel
theorem dX0_init_42 : decode cX0_init 42 = .ok (.sipush 400, 3) := by decide +kernel
theorem dX0_init_45 : decode cX0_init 45 = .ok (.newarray .int, 2) := by decide +kernel
theorem dX0_init_47 : decode cX0_init 47 = .ok (.putfield 34, 3) := by decide +kernel
theorem dX0_init_50 : decode cX0_init 50 = .ok (.aload_n 0, 1) := by decide +kernel
theorem dX0_init_51 : decode cX0_init 51 = .ok (.sipush 400, 3) := by decide +kernel
theorem dX0_init_54 : decode cX0_init 54 = .ok (.newarray .int, 2) := by decide +kernel
theorem dX0_init_56 : decode cX0_init 56 = .ok (.putfield 37, 3) := by decide +kernel
theorem dX0_init_59 : decode cX0_init 59 = .ok (.aload_n 0, 1) := by decide +kernel
theorem dX0_init_60 : decode cX0_init 60 = .ok (.sipush 400, 3) := by decide +kernel
theorem dX0_init_63 : decode cX0_init 63 = .ok (.newarray .int, 2) := by decide +kernel
theorem dX0_init_65 : decode cX0_init 65 = .ok (.putfield 40, 3) := by decide +kernel
theorem dX0_init_68 : decode cX0_init 68 = .ok (.getstatic 9, 3) := by decide +kernel
theorem dX0_init_71 : decode cX0_init 71 = .ok (.iconst 0, 1) := by decide +kernel
theorem dX0_init_72 : decode cX0_init 72 = .ok (.aload_n 0, 1) := by decide +kernel
theorem dX0_init_73 : decode cX0_init 73 = .ok (.getfield 13, 3) := by decide +kernel
theorem dX0_init_76 : decode cX0_init 76 = .ok (.iconst 0, 1) := by decide +kernel
theorem dX0_init_77 : decode cX0_init 77 = .ok (.getstatic 9, 3) := by decide +kernel
theorem dX0_init_80 : decode cX0_init 80 = .ok (.arraylength, 1) := by decide +kernel
theorem dX0_init_81 : decode cX0_init 81 = .ok (.invokestatic 43, 3) := by decide +kernel
theorem dX0_init_84 : decode cX0_init 84 = .ok (.iconst 0, 1) := by decide +kernel
theorem dX0_init_85 : decode cX0_init 85 = .ok (.istore_n 1, 1) := by decide +kernel
theorem dX0_init_86 : decode cX0_init 86 = .ok (.iload_n 1, 1) := by decide +kernel
theorem dX0_init_87 : decode cX0_init 87 = .ok (.iconst 3, 1) := by decide +kernel
theorem dX0_init_88 : decode cX0_init 88 = .ok (.if_icmp .ge 22, 3) := by decide +kernel
theorem dX0_init_91 : decode cX0_init 91 = .ok (.aload_n 0, 1) := by decide +kernel
theorem dX0_init_92 : decode cX0_init 92 = .ok (.getfield 20, 3) := by decide +kernel
theorem dX0_init_95 : decode cX0_init 95 = .ok (.iload_n 1, 1) := by decide +kernel
theorem dX0_init_96 : decode cX0_init 96 = .ok (.new 18, 3) := by decide +kernel
theorem dX0_init_99 : decode cX0_init 99 = .ok (.dup, 1) := by decide +kernel
theorem dX0_init_100 : decode cX0_init 100 = .ok (.invokespecial 49, 3) := by decide +kernel
theorem dX0_init_103 : decode cX0_init 103 = .ok (.aastore, 1) := by decide +kernel
theorem dX0_init_104 : decode cX0_init 104 = .ok (.iinc 1 1, 3) := by decide +kernel
theorem dX0_init_107 : decode cX0_init 107 = .ok (.goto (-21), 3) := by decide +kernel
theorem dX0_init_110 : decode cX0_init 110 = .ok (.return_, 1) := by decide +kernel
theorem dX0_copyFrom_0 : decode cX0_copyFrom 0 = .ok (.aload_n 1, 1) := by decide +kernel
theorem dX0_copyFrom_1 : decode cX0_copyFrom 1 = .ok (.getfield 13, 3) := by decide +kernel
theorem dX0_copyFrom_4 : decode cX0_copyFrom 4 = .ok (.iconst 0, 1) := by decide +kernel
theorem dX0_copyFrom_5 : decode cX0_copyFrom 5 = .ok (.aload_n 0, 1) := by decide +kernel
theorem dX0_copyFrom_6 : decode cX0_copyFrom 6 = .ok (.getfield 13, 3) := by decide +kernel
theorem dX0_copyFrom_9 : decode cX0_copyFrom 9 = .ok (.iconst 0, 1) := by decide +kernel
theorem dX0_copyFrom_10 : decode cX0_copyFrom 10 = .ok (.aload_n 0, 1) := by decide +kernel
theorem dX0_copyFrom_11 : decode cX0_copyFrom 11 = .ok (.getfield 13, 3) := by decide +kernel
theorem dX0_copyFrom_14 : decode cX0_copyFrom 14 = .ok (.arraylength, 1) := by decide +kernel
theorem dX0_copyFrom_15 : decode cX0_copyFrom 15 = .ok (.invokestatic 43, 3) := by decide +kernel
theorem dX0_copyFrom_18 : decode cX0_copyFrom 18 = .ok (.iconst 0, 1) := by decide +kernel
theorem dX0_copyFrom_19 : decode cX0_copyFrom 19 = .ok (.istore_n 2, 1) := by decide +kernel
theorem dX0_copyFrom_20 : decode cX0_copyFrom 20 = .ok (.iload_n 2, 1) := by decide +kernel
theorem dX0_copyFrom_21 : decode cX0_copyFrom 21 = .ok (.iconst 3, 1) := by decide +kernel
theorem dX0_copyFrom_22 : decode cX0_copyFrom 22 = .ok (.if_icmp .ge 24, 3) := by decide +kernel
theorem dX0_copyFrom_25 : decode cX0_copyFrom 25 = .ok (.aload_n 0, 1) := by decide +kernel
theorem dX0_copyFrom_26 : decode cX0_copyFrom 26 = .ok (.getfield 20, 3) := by decide +kernel
theorem dX0_copyFrom_29 : decode cX0_copyFrom 29 = .ok (.iload_n 2, 1) := by decide +kernel
theorem dX0_copyFrom_30 : decode cX0_copyFrom 30 = .ok (.aaload, 1) := by decide +kernel
theorem dX0_copyFrom_31 : decode cX0_copyFrom 31 = .ok (.aload_n 1, 1) := by decide +kernel
theorem dX0_copyFrom_32 : decode cX0_copyFrom 32 = .ok (.getfield 20, 3) := by decide +kernel
theorem dX0_copyFrom_35 : decode cX0_copyFrom 35 = .ok (.iload_n 2, 1) := by decide +kernel
theorem dX0_copyFrom_36 : decode cX0_copyFrom 36 = .ok (.aaload, 1) := by decide +kernel
theorem dX0_copyFrom_37 : decode cX0_copyFrom 37 = .ok (.invokevirtual 50, 3) := by decide +kernel
theorem dX0_copyFrom_40 : decode cX0_copyFrom 40 = .ok (.iinc 2 1, 3) := by decide +kernel
theorem dX0_copyFrom_43 : decode cX0_copyFrom 43 = .ok (.goto (-23), 3) := by decide +kernel
theorem dX0_copyFrom_46 : decode cX0_copyFrom 46 = .ok (.aload_n 0, 1) := by decide +kernel
theorem dX0_copyFrom_47 : decode cX0_copyFrom 47 = .ok (.aload_n 1, 1) := by decide +kernel
theorem dX0_copyFrom_48 : decode cX0_copyFrom 48 = .ok (.getfield 24, 3) := by decide +kernel
theorem dX0_copyFrom_51 : decode cX0_copyFrom 51 = .ok (.putfield 24, 3) := by decide +kernel
theorem dX0_copyFrom_54 : decode cX0_copyFrom 54 = .ok (.aload_n 0, 1) := by decide +kernel
theorem dX0_copyFrom_55 : decode cX0_copyFrom 55 = .ok (.aload_n 1, 1) := by decide +kernel
theorem dX0_copyFrom_56 : decode cX0_copyFrom 56 = .ok (.getfield 28, 3) := by decide +kernel
theorem dX0_copyFrom_59 : decode cX0_copyFrom 59 = .ok (.putfield 28, 3) := by decide +kernel
theorem dX0_copyFrom_62 : decode cX0_copyFrom 62 = .ok (.aload_n 1, 1) := by decide +kernel
theorem dX0_copyFrom_63 : decode cX0_copyFrom 63 = .ok (.getfield 31, 3) := by decide +kernel
theorem dX0_copyFrom_66 : decode cX0_copyFrom 66 = .ok (.iconst 0, 1) := by decide +kernel
theorem dX0_copyFrom_67 : decode cX0_copyFrom 67 = .ok (.aload_n 0, 1) := by decide +kernel
theorem dX0_copyFrom_68 : decode cX0_copyFrom 68 = .ok (.getfield 31, 3) := by decide +kernel
theorem dX0_copyFrom_71 : decode cX0_copyFrom 71 = .ok (.iconst 0, 1) := by decide +kernel
theorem dX0_copyFrom_72 : decode cX0_copyFrom 72 = .ok (.aload_n 0, 1) := by decide +kernel
theorem dX0_copyFrom_73 : decode cX0_copyFrom 73 = .ok (.getfield 28, 3) := by decide +kernel
theorem dX0_copyFrom_76 : decode cX0_copyFrom 76 = .ok (.invokestatic 43, 3) := by decide +kernel
theorem dX0_copyFrom_79 : decode cX0_copyFrom 79 = .ok (.aload_n 1, 1) := by decide +kernel
theorem dX0_copyFrom_80 : decode cX0_copyFrom 80 = .ok (.getfield 34, 3) := by decide +kernel
theorem dX0_copyFrom_83 : decode cX0_copyFrom 83 = .ok (.iconst 0, 1) := by decide +kernel
theorem dX0_copyFrom_84 : decode cX0_copyFrom 84 = .ok (.aload_n 0, 1) := by decide +kernel
theorem dX0_copyFrom_85 : decode cX0_copyFrom 85 = .ok (.getfield 34, 3) := by decide +kernel
theorem dX0_copyFrom_88 : decode cX0_copyFrom 88 = .ok (.iconst 0, 1) := by decide +kernel
theorem dX0_copyFrom_89 : decode cX0_copyFrom 89 = .ok (.aload_n 0, 1) := by decide +kernel
theorem dX0_copyFrom_90 : decode cX0_copyFrom 90 = .ok (.getfield 28, 3) := by decide +kernel
theorem dX0_copyFrom_93 : decode cX0_copyFrom 93 = .ok (.invokestatic 43, 3) := by decide +kernel
theorem dX0_copyFrom_96 : decode cX0_copyFrom 96 = .ok (.aload_n 1, 1) := by decide +kernel
theorem dX0_copyFrom_97 : decode cX0_copyFrom 97 = .ok (.getfield 37, 3) := by decide +kernel
theorem dX0_copyFrom_100 : decode cX0_copyFrom 100 = .ok (.iconst 0, 1) := by decide +kernel
theorem dX0_copyFrom_101 : decode cX0_copyFrom 101 = .ok (.aload_n 0, 1) := by decide +kernel
theorem dX0_copyFrom_102 : decode cX0_copyFrom 102 = .ok (.getfield 37, 3) := by decide +kernel
theorem dX0_copyFrom_105 : decode cX0_copyFrom 105 = .ok (.iconst 0, 1) := by decide +kernel
theorem dX0_copyFrom_106 : decode cX0_copyFrom 106 = .ok (.aload_n 0, 1) := by decide +kernel
theorem dX0_copyFrom_107 : decode cX0_copyFrom 107 = .ok (.getfield 28, 3) := by decide +kernel
theorem dX0_copyFrom_110 : decode cX0_copyFrom 110 = .ok (.invokestatic 43, 3) := by decide +kernel
theorem dX0_copyFrom_113 : decode cX0_copyFrom 113 = .ok (.aload_n 1, 1) := by decide +kernel
theorem dX0_copyFrom_114 : decode cX0_copyFrom 114 = .ok (.getfield 40, 3) := by decide +kernel
theorem dX0_copyFrom_117 : decode cX0_copyFrom 117 = .ok (.iconst 0, 1) := by decide +kernel
theorem dX0_copyFrom_118 : decode cX0_copyFrom 118 = .ok (.aload_n 0, 1) := by decide +kernel
theorem dX0_copyFrom_119 : decode cX0_copyFrom 119 = .ok (.getfield 40, 3) := by decide +kernel
theorem dX0_copyFrom_122 : decode cX0_copyFrom 122 = .ok (.iconst 0, 1) := by decide +kernel
theorem dX0_copyFrom_123 : decode cX0_copyFrom 123 = .ok (.aload_n 0, 1) := by decide +kernel
theorem dX0_copyFrom_124 : decode cX0_copyFrom 124 = .ok (.getfield 28, 3) := by decide +kernel
theorem dX0_copyFrom_127 : decode cX0_copyFrom 127 = .ok (.invokestatic 43, 3) := by decide +kernel
theorem dX0_copyFrom_130 : decode cX0_copyFrom 130 = .ok (.return_, 1) := by decide +kernel
theorem dX0_emptyLike_0 : decode cX0_emptyLike 0 = .ok (.aload_n 1, 1) := by decide +kernel
theorem dX0_emptyLike_1 : decode cX0_emptyLike 1 = .ok (.getfield 13, 3) := by decide +kernel
theorem dX0_emptyLike_4 : decode cX0_emptyLike 4 = .ok (.iconst 0, 1) := by decide +kernel
theorem dX0_emptyLike_5 : decode cX0_emptyLike 5 = .ok (.aload_n 0, 1) := by decide +kernel
theorem dX0_emptyLike_6 : decode cX0_emptyLike 6 = .ok (.getfield 13, 3) := by decide +kernel
theorem dX0_emptyLike_9 : decode cX0_emptyLike 9 = .ok (.iconst 0, 1) := by decide +kernel
theorem dX0_emptyLike_10 : decode cX0_emptyLike 10 = .ok (.aload_n 0, 1) := by decide +kernel
theorem dX0_emptyLike_11 : decode cX0_emptyLike 11 = .ok (.getfield 13, 3) := by decide +kernel
theorem dX0_emptyLike_14 : decode cX0_emptyLike 14 = .ok (.arraylength, 1) := by decide +kernel
theorem dX0_emptyLike_15 : decode cX0_emptyLike 15 = .ok (.invokestatic 43, 3) := by decide +kernel
theorem dX0_emptyLike_18 : decode cX0_emptyLike 18 = .ok (.iconst 0, 1) := by decide +kernel
theorem dX0_emptyLike_19 : decode cX0_emptyLike 19 = .ok (.istore_n 2, 1) := by decide +kernel
theorem dX0_emptyLike_20 : decode cX0_emptyLike 20 = .ok (.iload_n 2, 1) := by decide +kernel
theorem dX0_emptyLike_21 : decode cX0_emptyLike 21 = .ok (.iconst 3, 1) := by decide +kernel
theorem dX0_emptyLike_22 : decode cX0_emptyLike 22 = .ok (.if_icmp .ge 24, 3) := by decide +kernel
theorem dX0_emptyLike_25 : decode cX0_emptyLike 25 = .ok (.aload_n 0, 1) := by decide +kernel
theorem dX0_emptyLike_26 : decode cX0_emptyLike 26 = .ok (.getfield 20, 3) := by decide +kernel
theorem dX0_emptyLike_29 : decode cX0_emptyLike 29 = .ok (.iload_n 2, 1) := by decide +kernel
theorem dX0_emptyLike_30 : decode cX0_emptyLike 30 = .ok (.aaload, 1) := by decide +kernel
theorem dX0_emptyLike_31 : decode cX0_emptyLike 31 = .ok (.aload_n 1, 1) := by decide +kernel
theorem dX0_emptyLike_32 : decode cX0_emptyLike 32 = .ok (.getfield 20, 3) := by decide +kernel
theorem dX0_emptyLike_35 : decode cX0_emptyLike 35 = .ok (.iload_n 2, 1) := by decide +kernel
theorem dX0_emptyLike_36 : decode cX0_emptyLike 36 = .ok (.aaload, 1) := by decide +kernel
theorem dX0_emptyLike_37 : decode cX0_emptyLike 37 = .ok (.invokevirtual 54, 3) := by decide +kernel
theorem dX0_emptyLike_40 : decode cX0_emptyLike 40 = .ok (.iinc 2 1, 3) := by decide +kernel
theorem dX0_emptyLike_43 : decode cX0_emptyLike 43 = .ok (.goto (-23), 3) := by decide +kernel
theorem dX0_emptyLike_46 : decode cX0_emptyLike 46 = .ok (.aload_n 0, 1) := by decide +kernel
theorem dX0_emptyLike_47 : decode cX0_emptyLike 47 = .ok (.iconst 0, 1) := by decide +kernel
theorem dX0_emptyLike_48 : decode cX0_emptyLike 48 = .ok (.putfield 24, 3) := by decide +kernel
theorem dX0_emptyLike_51 : decode cX0_emptyLike 51 = .ok (.aload_n 0, 1) := by decide +kernel
theorem dX0_emptyLike_52 : decode cX0_emptyLike 52 = .ok (.iconst 0, 1) := by decide +kernel
theorem dX0_emptyLike_53 : decode cX0_emptyLike 53 = .ok (.putfield 28, 3) := by decide +kernel
theorem dX0_emptyLike_56 : decode cX0_emptyLike 56 = .ok (.return_, 1) := by decide +kernel
theorem dX0_changeSetting_0 : decode cX0_changeSetting 0 = .ok (.iload_n 1, 1) := by decide +kernel
theorem dX0_changeSetting_1 : decode cX0_changeSetting 1 = .ok (.ifCond .lt 12, 3) := by decide +kernel
theorem dX0_changeSetting_4 : decode cX0_changeSetting 4 = .ok (.iload_n 1, 1) := by decide +kernel
theorem dX0_changeSetting_5 : decode cX0_changeSetting 5 = .ok (.aload_n 0, 1) := by decide +kernel
theorem dX0_changeSetting_6 : decode cX0_changeSetting 6 = .ok (.getfield 13, 3) := by decide +kernel
theorem dX0_changeSetting_9 : decode cX0_changeSetting 9 = .ok (.arraylength, 1) := by decide +kernel
theorem dX0_changeSetting_10 : decode cX0_changeSetting 10 = .ok (.if_icmp .lt 6, 3) := by decide +kernel
theorem dX0_changeSetting_13 : decode cX0_changeSetting 13 = .ok (.bipush (-2), 2) := by decide +kernel
theorem dX0_changeSetting_15 : decode cX0_changeSetting 15 = .ok (.ireturn, 1) := by decide +kernel
theorem dX0_changeSetting_16 : decode cX0_changeSetting 16 = .ok (.iload_n 2, 1) := by decide +kernel
theorem dX0_changeSetting_17 : decode cX0_changeSetting 17 = .ok (.getstatic 57, 3) := by decide +kernel
theorem dX0_changeSetting_20 : decode cX0_changeSetting 20 = .ok (.iload_n 1, 1) := by decide +kernel
theorem dX0_changeSetting_21 : decode cX0_changeSetting 21 = .ok (.iaload, 1) := by decide +kernel
theorem dX0_changeSetting_22 : decode cX0_changeSetting 22 = .ok (.if_icmp .lt 12, 3) := by decide +kernel
theorem dX0_changeSetting_25 : decode cX0_changeSetting 25 = .ok (.iload_n 2, 1) := by decide +kernel
theorem dX0_changeSetting_26 : decode cX0_changeSetting 26 = .ok (.getstatic 60, 3) := by decide +kernel
theorem dX0_changeSetting_29 : decode cX0_changeSetting 29 = .ok (.iload_n 1, 1) := by decide +kernel
theorem dX0_changeSetting_30 : decode cX0_changeSetting 30 = .ok (.iaload, 1) := by decide +kernel
theorem dX0_changeSetting_31 : decode cX0_changeSetting 31 = .ok (.if_icmp .le 6, 3) := by decide +kernel
theorem dX0_changeSetting_34 : decode cX0_changeSetting 34 = .ok (.bipush (-2), 2) := by decide +kernel
theorem dX0_changeSetting_36 : decode cX0_changeSetting 36 = .ok (.ireturn, 1) := by decide +kernel
theorem dX0_changeSetting_37 : decode cX0_changeSetting 37 = .ok (.aload_n 0, 1) := by decide +kernel
theorem dX0_changeSetting_38 : decode cX0_changeSetting 38 = .ok (.getfield 13, 3) := by decide +kernel
theorem dX0_changeSetting_41 : decode cX0_changeSetting 41 = .ok (.iload_n 1, 1) := by decide +kernel
theorem dX0_changeSetting_42 : decode cX0_changeSetting 42 = .ok (.iaload, 1) := by decide +kernel
theorem dX0_changeSetting_43 : decode cX0_changeSetting 43 = .ok (.istore_n 3, 1) := by decide +kernel
theorem dX0_changeSetting_44 : decode cX0_changeSetting 44 = .ok (.aload_n 0, 1) := by decide +kernel
theorem dX0_changeSetting_45 : decode cX0_changeSetting 45 = .ok (.getfield 13, 3) := by decide +kernel
theorem dX0_changeSetting_48 : decode cX0_changeSetting 48 = .ok (.iload_n 1, 1) := by decide +kernel
theorem dX0_changeSetting_49 : decode cX0_changeSetting 49 = .ok (.iload_n 2, 1) := by decide +kernel
theorem dX0_changeSetting_50 : decode cX0_changeSetting 50 = .ok (.iastore, 1) := by decide +kernel
theorem dX0_changeSetting_51 : decode cX0_changeSetting 51 = .ok (.iload_n 3, 1) := by decide +kernel
theorem dX0_changeSetting_52 : decode cX0_changeSetting 52 = .ok (.ireturn, 1) := by decide +kernel
theorem dX0_changeBounds_0 : decode cX0_changeBounds 0 = .ok (.iload_n 1, 1) := by decide +kernel
theorem dX0_changeBounds_1 : decode cX0_changeBounds 1 = .ok (.invokestatic 63, 3) := by decide +kernel
theorem dX0_changeBounds_4 : decode cX0_changeBounds 4 = .ok (.ifCond .ne 5, 3) := by decide +kernel
theorem dX0_changeBounds_7 : decode cX0_changeBounds 7 = .ok (.iconst (-1), 1) := by decide +kernel
theorem dX0_changeBounds_8 : decode cX0_changeBounds 8 = .ok (.ireturn, 1) := by decide +kernel
theorem dX0_changeBounds_9 : decode cX0_changeBounds 9 = .ok (.iload_n 2, 1) := by decide +kernel
theorem dX0_changeBounds_10 : decode cX0_changeBounds 10 = .ok (.iconst 1, 1) := by decide +kernel
theorem dX0_changeBounds_11 : decode cX0_changeBounds 11 = .ok (.if_icmp .lt 20, 3) := by decide +kernel
theorem dX0_changeBounds_14 : decode cX0_changeBounds 14 = .ok (.iload_n 2, 1) := by decide +kernel
theorem dX0_changeBounds_15 : decode cX0_changeBounds 15 = .ok (.bipush 32, 2) := by decide +kernel
theorem dX0_changeBounds_17 : decode cX0_changeBounds 17 = .ok (.if_icmp .gt 14, 3) := by decide +kernel
theorem dX0_changeBounds_20 : decode cX0_changeBounds 20 = .ok (.iload_n 3, 1) := by decide +kernel
theorem dX0_changeBounds_21 : decode cX0_changeBounds 21 = .ok (.iconst 1, 1) := by decide +kernel
theorem dX0_changeBounds_22 : decode cX0_changeBounds 22 = .ok (.if_icmp .lt 9, 3) := by decide +kernel
theorem dX0_changeBounds_25 : decode cX0_changeBounds 25 = .ok (.iload_n 3, 1) := by decide +kernel
theorem dX0_changeBounds_26 : decode cX0_changeBounds 26 = .ok (.bipush 99, 2) := by decide +kernel
theorem dX0_changeBounds_28 : decode cX0_changeBounds 28 = .ok (.if_icmp .le 6, 3) := by decide +kernel
theorem dX0_changeBounds_31 : decode cX0_changeBounds 31 = .ok (.bipush (-2), 2) := by decide +kernel
theorem dX0_changeBounds_33 : decode cX0_changeBounds 33 = .ok (.ireturn, 1) := by decide +kernel
theorem dX0_changeBounds_34 : decode cX0_changeBounds 34 = .ok (.aload_n 0, 1) := by decide +kernel
theorem dX0_changeBounds_35 : decode cX0_changeBounds 35 = .ok (.getfield 20, 3) := by decide +kernel
theorem dX0_changeBounds_38 : decode cX0_changeBounds 38 = .ok (.iload_n 1, 1) := by decide +kernel
theorem dX0_changeBounds_39 : decode cX0_changeBounds 39 = .ok (.aaload, 1) := by decide +kernel
theorem dX0_changeBounds_40 : decode cX0_changeBounds 40 = .ok (.astore 4, 2) := by decide +kernel
theorem dX0_changeBounds_42 : decode cX0_changeBounds 42 = .ok (.aload 4, 2) := by decide +kernel
theorem dX0_changeBounds_44 : decode cX0_changeBounds 44 = .ok (.getfield 67, 3) := by decide +kernel
theorem dX0_changeBounds_47 : decode cX0_changeBounds 47 = .ok (.istore 5, 2) := by decide +kernel
theorem dX0_changeBounds_49 : decode cX0_changeBounds 49 = .ok (.aload 4, 2) := by decide +kernel
theorem dX0_changeBounds_51 : decode cX0_changeBounds 51 = .ok (.iload_n 2, 1) := by decide +kernel
theorem dX0_changeBounds_52 : decode cX0_changeBounds 52 = .ok (.putfield 67, 3) := by decide +kernel
theorem dX0_changeBounds_55 : decode cX0_changeBounds 55 = .ok (.aload 4, 2) := by decide +kernel
theorem dX0_changeBounds_57 : decode cX0_changeBounds 57 = .ok (.iload_n 3, 1) := by decide +kernel
theorem dX0_changeBounds_58 : decode cX0_changeBounds 58 = .ok (.putfield 70, 3) := by decide +kernel
theorem dX0_changeBounds_61 : decode cX0_changeBounds 61 = .ok (.aload 4, 2) := by decide +kernel
theorem dX0_changeBounds_63 : decode cX0_changeBounds 63 = .ok (.iload_n 2, 1) := by decide +kernel
theorem dX0_changeBounds_64 : decode cX0_changeBounds 64 = .ok (.putfield 73, 3) := by decide +kernel
theorem dX0_changeBounds_67 : decode cX0_changeBounds 67 = .ok (.iload 5, 2) := by decide +kernel
theorem dX0_changeBounds_69 : decode cX0_changeBounds 69 = .ok (.ireturn, 1) := by decide +kernel
theorem dX0_receive_0 : decode cX0_receive 0 = .ok (.iload_n 1, 1) := by decide +kernel
theorem dX0_receive_1 : decode cX0_receive 1 = .ok (.ifCond .lt 9, 3) := by decide +kernel
theorem dX0_receive_4 : decode cX0_receive 4 = .ok (.iload_n 1, 1) := by decide +kernel
theorem dX0_receive_5 : decode cX0_receive 5 = .ok (.bipush 99, 2) := by decide +kernel
theorem dX0_receive_7 : decode cX0_receive 7 = .ok (.if_icmp .le 6, 3) := by decide +kernel
theorem dX0_receive_10 : decode cX0_receive 10 = .ok (.bipush (-2), 2) := by decide +kernel
theorem dX0_receive_12 : decode cX0_receive 12 = .ok (.ireturn, 1) := by decide +kernel
theorem dX0_receive_13 : decode cX0_receive 13 = .ok (.aload_n 0, 1) := by decide +kernel
theorem dX0_receive_14 : decode cX0_receive 14 = .ok (.getfield 28, 3) := by decide +kernel
theorem dX0_receive_17 : decode cX0_receive 17 = .ok (.sipush 400, 3) := by decide +kernel
theorem dX0_receive_20 : decode cX0_receive 20 = .ok (.if_icmp .lt 6, 3) := by decide +kernel
theorem dX0_receive_23 : decode cX0_receive 23 = .ok (.bipush (-4), 2) := by decide +kernel
theorem dX0_receive_25 : decode cX0_receive 25 = .ok (.ireturn, 1) := by decide +kernel
theorem dX0_receive_26 : decode cX0_receive 26 = .ok (.aload_n 0, 1) := by decide +kernel
theorem dX0_receive_27 : decode cX0_receive 27 = .ok (.getfield 28, 3) := by decide +kernel
theorem dX0_receive_30 : decode cX0_receive 30 = .ok (.istore_n 2, 1) := by decide +kernel
theorem dX0_receive_31 : decode cX0_receive 31 = .ok (.aload_n 0, 1) := by decide +kernel
theorem dX0_receive_32 : decode cX0_receive 32 = .ok (.dup, 1) := by decide +kernel
theorem dX0_receive_33 : decode cX0_receive 33 = .ok (.getfield 28, 3) := by decide +kernel
theorem dX0_receive_36 : decode cX0_receive 36 = .ok (.iconst 1, 1) := by decide +kernel
theorem dX0_receive_37 : decode cX0_receive 37 = .ok (.iadd, 1) := by decide +kernel
theorem dX0_receive_38 : decode cX0_receive 38 = .ok (.putfield 28, 3) := by decide +kernel
theorem dX0_receive_41 : decode cX0_receive 41 = .ok (.aload_n 0, 1) := by decide +kernel
theorem dX0_receive_42 : decode cX0_receive 42 = .ok (.getfield 31, 3) := by decide +kernel
theorem dX0_receive_45 : decode cX0_receive 45 = .ok (.iload_n 2, 1) := by decide +kernel
theorem dX0_receive_46 : decode cX0_receive 46 = .ok (.iload_n 1, 1) := by decide +kernel
theorem dX0_receive_47 : decode cX0_receive 47 = .ok (.iastore, 1) := by decide +kernel
theorem dX0_receive_48 : decode cX0_receive 48 = .ok (.aload_n 0, 1) := by decide +kernel
theorem dX0_receive_49 : decode cX0_receive 49 = .ok (.getfield 34, 3) := by decide +kernel
theorem dX0_receive_52 : decode cX0_receive 52 = .ok (.iload_n 2, 1) := by decide +kernel
theorem dX0_receive_53 : decode cX0_receive 53 = .ok (.aload_n 0, 1) := by decide +kernel
theorem dX0_receive_54 : decode cX0_receive 54 = .ok (.getfield 24, 3) := by decide +kernel
theorem dX0_receive_57 : decode cX0_receive 57 = .ok (.iastore, 1) := by decide +kernel
theorem dX0_receive_58 : decode cX0_receive 58 = .ok (.aload_n 0, 1) := by decide +kernel
theorem dX0_receive_59 : decode cX0_receive 59 = .ok (.getfield 20, 3) := by decide +kernel
theorem dX0_receive_62 : decode cX0_receive 62 = .ok (.iload_n 1, 1) := by decide +kernel
theorem dX0_receive_63 : decode cX0_receive 63 = .ok (.iconst 3, 1) := by decide +kernel
theorem dX0_receive_64 : decode cX0_receive 64 = .ok (.irem, 1) := by decide +kernel
theorem dX0_receive_65 : decode cX0_receive 65 = .ok (.aaload, 1) := by decide +kernel
theorem dX0_receive_66 : decode cX0_receive 66 = .ok (.astore_n 3, 1) := by decide +kernel
theorem dX0_receive_67 : decode cX0_receive 67 = .ok (.aload_n 3, 1) := by decide +kernel
theorem dX0_receive_68 : decode cX0_receive 68 = .ok (.getfield 76, 3) := by decide +kernel
theorem dX0_receive_71 : decode cX0_receive 71 = .ok (.aload_n 0, 1) := by decide +kernel
theorem dX0_receive_72 : decode cX0_receive 72 = .ok (.getfield 13, 3) := by decide +kernel
theorem dX0_receive_75 : decode cX0_receive 75 = .ok (.iconst 0, 1) := by decide +kernel
theorem dX0_receive_76 : decode cX0_receive 76 = .ok (.iaload, 1) := by decide +kernel
theorem dX0_receive_77 : decode cX0_receive 77 = .ok (.if_icmp .lt 22, 3) := by decide +kernel
theorem dX0_receive_80 : decode cX0_receive 80 = .ok (.aload_n 0, 1) := by decide +kernel
theorem dX0_receive_81 : decode cX0_receive 81 = .ok (.getfield 37, 3) := by decide +kernel
theorem dX0_receive_84 : decode cX0_receive 84 = .ok (.iload_n 2, 1) := by decide +kernel
theorem dX0_receive_85 : decode cX0_receive 85 = .ok (.iconst 2, 1) := by decide +kernel
theorem dX0_receive_86 : decode cX0_receive 86 = .ok (.iastore, 1) := by decide +kernel
theorem dX0_receive_87 : decode cX0_receive 87 = .ok (.aload_n 3, 1) := by decide +kernel
theorem dX0_receive_88 : decode cX0_receive 88 = .ok (.dup, 1) := by decide +kernel
theorem dX0_receive_89 : decode cX0_receive 89 = .ok (.getfield 79, 3) := by decide +kernel
theorem dX0_receive_92 : decode cX0_receive 92 = .ok (.iconst 1, 1) := by decide +kernel
theorem dX0_receive_93 : decode cX0_receive 93 = .ok (.iadd, 1) := by decide +kernel
theorem dX0_receive_94 : decode cX0_receive 94 = .ok (.putfield 79, 3) := by decide +kernel
theorem dX0_receive_97 : decode cX0_receive 97 = .ok (.iload_n 2, 1) := by decide +kernel
theorem dX0_receive_98 : decode cX0_receive 98 = .ok (.ireturn, 1) := by decide +kernel
theorem dX0_receive_99 : decode cX0_receive 99 = .ok (.aload_n 0, 1) := by decide +kernel
theorem dX0_receive_100 : decode cX0_receive 100 = .ok (.getfield 37, 3) := by decide +kernel
theorem dX0_receive_103 : decode cX0_receive 103 = .ok (.iload_n 2, 1) := by decide +kernel
theorem dX0_receive_104 : decode cX0_receive 104 = .ok (.iconst 0, 1) := by decide +kernel
theorem dX0_receive_105 : decode cX0_receive 105 = .ok (.iastore, 1) := by decide +kernel
theorem dX0_receive_106 : decode cX0_receive 106 = .ok (.aload_n 3, 1) := by decide +kernel
theorem dX0_receive_107 : decode cX0_receive 107 = .ok (.dup, 1) := by decide +kernel
theorem dX0_receive_108 : decode cX0_receive 108 = .ok (.getfield 76, 3) := by decide +kernel
theorem dX0_receive_111 : decode cX0_receive 111 = .ok (.iconst 1, 1) := by decide +kernel
theorem dX0_receive_112 : decode cX0_receive 112 = .ok (.iadd, 1) := by decide +kernel
theorem dX0_receive_113 : decode cX0_receive 113 = .ok (.putfield 76, 3) := by decide +kernel
theorem dX0_receive_116 : decode cX0_receive 116 = .ok (.aload_n 3, 1) := by decide +kernel
theorem dX0_receive_117 : decode cX0_receive 117 = .ok (.getfield 82, 3) := by decide +kernel
theorem dX0_receive_120 : decode cX0_receive 120 = .ok (.bipush (-6), 2) := by decide +kernel
theorem dX0_receive_122 : decode cX0_receive 122 = .ok (.if_icmp .ne 8, 3) := by decide +kernel
theorem dX0_receive_125 : decode cX0_receive 125 = .ok (.aload_n 3, 1) := by decide +kernel
theorem dX0_receive_126 : decode cX0_receive 126 = .ok (.iload_n 2, 1) := by decide +kernel
theorem dX0_receive_127 : decode cX0_receive 127 = .ok (.putfield 82, 3) := by decide +kernel
theorem dX0_receive_130 : decode cX0_receive 130 = .ok (.iload_n 2, 1) := by decide +kernel
theorem dX0_receive_131 : decode cX0_receive 131 = .ok (.ireturn, 1) := by decide +kernel
theorem dX0_changeMask_0 : decode cX0_changeMask 0 = .ok (.iload_n 1, 1) := by decide +kernel
theorem dX0_changeMask_1 : decode cX0_changeMask 1 = .ok (.invokestatic 63, 3) := by decide +kernel
theorem dX0_changeMask_4 : decode cX0_changeMask 4 = .ok (.ifCond .ne 5, 3) := by decide +kernel
theorem dX0_changeMask_7 : decode cX0_changeMask 7 = .ok (.iconst (-1), 1) := by decide +kernel
theorem dX0_changeMask_8 : decode cX0_changeMask 8 = .ok (.ireturn, 1) := by decide +kernel
theorem dX0_changeMask_9 : decode cX0_changeMask 9 = .ok (.aload_n 0, 1) := by decide +kernel
theorem dX0_changeMask_10 : decode cX0_changeMask 10 = .ok (.getfield 20, 3) := by decide +kernel
theorem dX0_changeMask_13 : decode cX0_changeMask 13 = .ok (.iload_n 1, 1) := by decide +kernel
theorem dX0_changeMask_14 : decode cX0_changeMask 14 = .ok (.aaload, 1) := by decide +kernel
theorem dX0_changeMask_15 : decode cX0_changeMask 15 = .ok (.astore_n 2, 1) := by decide +kernel
theorem dX0_changeMask_16 : decode cX0_changeMask 16 = .ok (.aload_n 2, 1) := by decide +kernel
theorem dX0_changeMask_17 : decode cX0_changeMask 17 = .ok (.aload_n 2, 1) := by decide +kernel
theorem dX0_changeMask_18 : decode cX0_changeMask 18 = .ok (.getfield 85, 3) := by decide +kernel
theorem dX0_changeMask_21 : decode cX0_changeMask 21 = .ok (.ifCond .ne 7, 3) := by decide +kernel
theorem dX0_changeMask_24 : decode cX0_changeMask 24 = .ok (.iconst 1, 1) := by decide +kernel
theorem dX0_changeMask_25 : decode cX0_changeMask 25 = .ok (.goto 4, 3) := by decide +kernel
theorem dX0_changeMask_28 : decode cX0_changeMask 28 = .ok (.iconst 0, 1) := by decide +kernel
theorem dX0_changeMask_29 : decode cX0_changeMask 29 = .ok (.putfield 85, 3) := by decide +kernel
theorem dX0_changeMask_32 : decode cX0_changeMask 32 = .ok (.aload_n 2, 1) := by decide +kernel
theorem dX0_changeMask_33 : decode cX0_changeMask 33 = .ok (.getfield 85, 3) := by decide +kernel
theorem dX0_changeMask_36 : decode cX0_changeMask 36 = .ok (.ifCond .eq 7, 3) := by decide +kernel
theorem dX0_changeMask_39 : decode cX0_changeMask 39 = .ok (.iconst 1, 1) := by decide +kernel
theorem dX0_changeMask_40 : decode cX0_changeMask 40 = .ok (.goto 4, 3) := by decide +kernel
theorem dX0_changeMask_43 : decode cX0_changeMask 43 = .ok (.iconst 0, 1) := by decide +kernel
theorem dX0_changeMask_44 : decode cX0_changeMask 44 = .ok (.ireturn, 1) := by decide +kernel
theorem dX0_callByHand_0 : decode cX0_callByHand 0 = .ok (.iload_n 1, 1) := by decide +kernel
theorem dX0_callByHand_1 : decode cX0_callByHand 1 = .ok (.invokestatic 63, 3) := by decide +kernel
theorem dX0_callByHand_4 : decode cX0_callByHand 4 = .ok (.ifCond .ne 5, 3) := by decide +kernel
theorem dX0_callByHand_7 : decode cX0_callByHand 7 = .ok (.iconst (-1), 1) := by decide +kernel
theorem dX0_callByHand_8 : decode cX0_callByHand 8 = .ok (.ireturn, 1) := by decide +kernel
theorem dX0_callByHand_9 : decode cX0_callByHand 9 = .ok (.aload_n 0, 1) := by decide +kernel
theorem dX0_callByHand_10 : decode cX0_callByHand 10 = .ok (.getfield 20, 3) := by decide +kernel
theorem dX0_callByHand_13 : decode cX0_callByHand 13 = .ok (.iload_n 1, 1) := by decide +kernel
theorem dX0_callByHand_14 : decode cX0_callByHand 14 = .ok (.aaload, 1) := by decide +kernel
theorem dX0_callByHand_15 : decode cX0_callByHand 15 = .ok (.astore_n 2, 1) := by decide +kernel
theorem dX0_callByHand_16 : decode cX0_callByHand 16 = .ok (.aload_n 2, 1) := by decide +kernel
theorem dX0_callByHand_17 : decode cX0_callByHand 17 = .ok (.invokevirtual 89, 3) := by decide +kernel
theorem dX0_callByHand_20 : decode cX0_callByHand 20 = .ok (.ifCond .ne 10, 3) := by decide +kernel
theorem dX0_callByHand_23 : decode cX0_callByHand 23 = .ok (.aload_n 2, 1) := by decide +kernel
theorem dX0_callByHand_24 : decode cX0_callByHand 24 = .ok (.getfield 76, 3) := by decide +kernel
theorem dX0_callByHand_27 : decode cX0_callByHand 27 = .ok (.ifCond .ne 6, 3) := by decide +kernel
theorem dX0_callByHand_30 : decode cX0_callByHand 30 = .ok (.bipush (-5), 2) := by decide +kernel
theorem dX0_callByHand_32 : decode cX0_callByHand 32 = .ok (.ireturn, 1) := by decide +kernel
theorem dX0_callByHand_33 : decode cX0_callByHand 33 = .ok (.aload_n 0, 1) := by decide +kernel
theorem dX0_callByHand_34 : decode cX0_callByHand 34 = .ok (.aload_n 2, 1) := by decide +kernel
theorem dX0_callByHand_35 : decode cX0_callByHand 35 = .ok (.invokevirtual 93, 3) := by decide +kernel
theorem dX0_callByHand_38 : decode cX0_callByHand 38 = .ok (.aload_n 2, 1) := by decide +kernel
theorem dX0_callByHand_39 : decode cX0_callByHand 39 = .ok (.getfield 96, 3) := by decide +kernel
theorem dX0_callByHand_42 : decode cX0_callByHand 42 = .ok (.ireturn, 1) := by decide +kernel
theorem dX0_passTicks_0 : decode cX0_passTicks 0 = .ok (.iload_n 1, 1) := by decide +kernel
theorem dX0_passTicks_1 : decode cX0_passTicks 1 = .ok (.iconst 1, 1) := by decide +kernel
theorem dX0_passTicks_2 : decode cX0_passTicks 2 = .ok (.if_icmp .lt 9, 3) := by decide +kernel
theorem dX0_passTicks_5 : decode cX0_passTicks 5 = .ok (.iload_n 1, 1) := by decide +kernel
theorem dX0_passTicks_6 : decode cX0_passTicks 6 = .ok (.bipush 99, 2) := by decide +kernel
theorem dX0_passTicks_8 : decode cX0_passTicks 8 = .ok (.if_icmp .le 6, 3) := by decide +kernel
theorem dX0_passTicks_11 : decode cX0_passTicks 11 = .ok (.bipush (-2), 2) := by decide +kernel
theorem dX0_passTicks_13 : decode cX0_passTicks 13 = .ok (.ireturn, 1) := by decide +kernel
theorem dX0_passTicks_14 : decode cX0_passTicks 14 = .ok (.aload_n 0, 1) := by decide +kernel
theorem dX0_passTicks_15 : decode cX0_passTicks 15 = .ok (.getfield 24, 3) := by decide +kernel
theorem dX0_passTicks_18 : decode cX0_passTicks 18 = .ok (.iload_n 1, 1) := by decide +kernel
theorem dX0_passTicks_19 : decode cX0_passTicks 19 = .ok (.iadd, 1) := by decide +kernel
theorem dX0_passTicks_20 : decode cX0_passTicks 20 = .ok (.sipush 9999, 3) := by decide +kernel
theorem dX0_passTicks_23 : decode cX0_passTicks 23 = .ok (.if_icmp .le 6, 3) := by decide +kernel
theorem dX0_passTicks_26 : decode cX0_passTicks 26 = .ok (.bipush (-5), 2) := by decide +kernel
theorem dX0_passTicks_28 : decode cX0_passTicks 28 = .ok (.ireturn, 1) := by decide +kernel
theorem dX0_passTicks_29 : decode cX0_passTicks 29 = .ok (.aload_n 0, 1) := by decide +kernel
theorem dX0_passTicks_30 : decode cX0_passTicks 30 = .ok (.iload_n 1, 1) := by decide +kernel
theorem dX0_passTicks_31 : decode cX0_passTicks 31 = .ok (.invokevirtual 99, 3) := by decide +kernel
theorem dX0_passTicks_34 : decode cX0_passTicks 34 = .ok (.ireturn, 1) := by decide +kernel
theorem dX0_runTicks_0 : decode cX0_runTicks 0 = .ok (.iconst 0, 1) := by decide +kernel
theorem dX0_runTicks_1 : decode cX0_runTicks 1 = .ok (.istore_n 2, 1) := by decide +kernel
theorem dX0_runTicks_2 : decode cX0_runTicks 2 = .ok (.iconst 0, 1) := by decide +kernel
theorem dX0_runTicks_3 : decode cX0_runTicks 3 = .ok (.istore_n 3, 1) := by decide +kernel
theorem dX0_runTicks_4 : decode cX0_runTicks 4 = .ok (.iload_n 3, 1) := by decide +kernel
theorem dX0_runTicks_5 : decode cX0_runTicks 5 = .ok (.iload_n 1, 1) := by decide +kernel
theorem dX0_runTicks_6 : decode cX0_runTicks 6 = .ok (.if_icmp .ge 16, 3) := by decide +kernel
theorem dX0_runTicks_9 : decode cX0_runTicks 9 = .ok (.iload_n 2, 1) := by decide +kernel
theorem dX0_runTicks_10 : decode cX0_runTicks 10 = .ok (.aload_n 0, 1) := by decide +kernel
theorem dX0_runTicks_11 : decode cX0_runTicks 11 = .ok (.invokevirtual 103, 3) := by decide +kernel
theorem dX0_runTicks_14 : decode cX0_runTicks 14 = .ok (.iadd, 1) := by decide +kernel
theorem dX0_runTicks_15 : decode cX0_runTicks 15 = .ok (.istore_n 2, 1) := by decide +kernel
theorem dX0_runTicks_16 : decode cX0_runTicks 16 = .ok (.iinc 3 1, 3) := by decide +kernel
theorem dX0_runTicks_19 : decode cX0_runTicks 19 = .ok (.goto (-15), 3) := by decide +kernel
theorem dX0_runTicks_22 : decode cX0_runTicks 22 = .ok (.iload_n 2, 1) := by decide +kernel
theorem dX0_runTicks_23 : decode cX0_runTicks 23 = .ok (.ireturn, 1) := by decide +kernel
theorem dX0_tick_0 : decode cX0_tick 0 = .ok (.aload_n 0, 1) := by decide +kernel
theorem dX0_tick_1 : decode cX0_tick 1 = .ok (.invokevirtual 107, 3) := by decide +kernel
theorem dX0_tick_4 : decode cX0_tick 4 = .ok (.istore_n 1, 1) := by decide +kernel
theorem dX0_tick_5 : decode cX0_tick 5 = .ok (.iconst 0, 1) := by decide +kernel
theorem dX0_tick_6 : decode cX0_tick 6 = .ok (.istore_n 2, 1) := by decide +kernel
theorem dX0_tick_7 : decode cX0_tick 7 = .ok (.iload_n 2, 1) := by decide +kernel
theorem dX0_tick_8 : decode cX0_tick 8 = .ok (.iconst 3, 1) := by decide +kernel
theorem dX0_tick_9 : decode cX0_tick 9 = .ok (.if_icmp .ge 32, 3) := by decide +kernel
theorem dX0_tick_12 : decode cX0_tick 12 = .ok (.aload_n 0, 1) := by decide +kernel
theorem dX0_tick_13 : decode cX0_tick 13 = .ok (.aload_n 0, 1) := by decide +kernel
theorem dX0_tick_14 : decode cX0_tick 14 = .ok (.getfield 20, 3) := by decide +kernel
theorem dX0_tick_17 : decode cX0_tick 17 = .ok (.iload_n 2, 1) := by decide +kernel
theorem dX0_tick_18 : decode cX0_tick 18 = .ok (.aaload, 1) := by decide +kernel
theorem dX0_tick_19 : decode cX0_tick 19 = .ok (.invokevirtual 110, 3) := by decide +kernel
theorem dX0_tick_22 : decode cX0_tick 22 = .ok (.ifCond .ne 13, 3) := by decide +kernel
theorem dX0_tick_25 : decode cX0_tick 25 = .ok (.aload_n 0, 1) := by decide +kernel
theorem dX0_tick_26 : decode cX0_tick 26 = .ok (.aload_n 0, 1) := by decide +kernel
theorem dX0_tick_27 : decode cX0_tick 27 = .ok (.getfield 20, 3) := by decide +kernel
theorem dX0_tick_30 : decode cX0_tick 30 = .ok (.iload_n 2, 1) := by decide +kernel
theorem dX0_tick_31 : decode cX0_tick 31 = .ok (.aaload, 1) := by decide +kernel
theorem dX0_tick_32 : decode cX0_tick 32 = .ok (.invokevirtual 93, 3) := by decide +kernel
theorem dX0_tick_35 : decode cX0_tick 35 = .ok (.iinc 2 1, 3) := by decide +kernel
theorem dX0_tick_38 : decode cX0_tick 38 = .ok (.goto (-31), 3) := by decide +kernel
theorem dX0_tick_41 : decode cX0_tick 41 = .ok (.aload_n 0, 1) := by decide +kernel
theorem dX0_tick_42 : decode cX0_tick 42 = .ok (.dup, 1) := by decide +kernel
theorem dX0_tick_43 : decode cX0_tick 43 = .ok (.getfield 24, 3) := by decide +kernel
theorem dX0_tick_46 : decode cX0_tick 46 = .ok (.iconst 1, 1) := by decide +kernel
theorem dX0_tick_47 : decode cX0_tick 47 = .ok (.iadd, 1) := by decide +kernel
theorem dX0_tick_48 : decode cX0_tick 48 = .ok (.putfield 24, 3) := by decide +kernel
theorem dX0_tick_51 : decode cX0_tick 51 = .ok (.iload_n 1, 1) := by decide +kernel
theorem dX0_tick_52 : decode cX0_tick 52 = .ok (.ireturn, 1) := by decide +kernel
theorem dX0_poll_0 : decode cX0_poll 0 = .ok (.aload_n 0, 1) := by decide +kernel
theorem dX0_poll_1 : decode cX0_poll 1 = .ok (.iconst 0, 1) := by decide +kernel
theorem dX0_poll_2 : decode cX0_poll 2 = .ok (.invokevirtual 114, 3) := by decide +kernel
theorem dX0_poll_5 : decode cX0_poll 5 = .ok (.istore_n 1, 1) := by decide +kernel
theorem dX0_poll_6 : decode cX0_poll 6 = .ok (.iload_n 1, 1) := by decide +kernel
theorem dX0_poll_7 : decode cX0_poll 7 = .ok (.invokestatic 63, 3) := by decide +kernel
theorem dX0_poll_10 : decode cX0_poll 10 = .ok (.ifCond .ne 5, 3) := by decide +kernel
theorem dX0_poll_13 : decode cX0_poll 13 = .ok (.iconst 0, 1) := by decide +kernel
theorem dX0_poll_14 : decode cX0_poll 14 = .ok (.ireturn, 1) := by decide +kernel
theorem dX0_poll_15 : decode cX0_poll 15 = .ok (.aload_n 0, 1) := by decide +kernel
theorem dX0_poll_16 : decode cX0_poll 16 = .ok (.getfield 20, 3) := by decide +kernel
theorem dX0_poll_19 : decode cX0_poll 19 = .ok (.iload_n 1, 1) := by decide +kernel
theorem dX0_poll_20 : decode cX0_poll 20 = .ok (.aaload, 1) := by decide +kernel
theorem dX0_poll_21 : decode cX0_poll 21 = .ok (.astore_n 2, 1) := by decide +kernel
theorem dX0_poll_22 : decode cX0_poll 22 = .ok (.iconst 0, 1) := by decide +kernel
theorem dX0_poll_23 : decode cX0_poll 23 = .ok (.istore_n 3, 1) := by decide +kernel
theorem dX0_poll_24 : decode cX0_poll 24 = .ok (.iload_n 3, 1) := by decide +kernel
theorem dX0_poll_25 : decode cX0_poll 25 = .ok (.aload_n 0, 1) := by decide +kernel
theorem dX0_poll_26 : decode cX0_poll 26 = .ok (.getfield 13, 3) := by decide +kernel
theorem dX0_poll_29 : decode cX0_poll 29 = .ok (.iconst 1, 1) := by decide +kernel
theorem dX0_poll_30 : decode cX0_poll 30 = .ok (.iaload, 1) := by decide +kernel
theorem dX0_poll_31 : decode cX0_poll 31 = .ok (.if_icmp .ge 26, 3) := by decide +kernel
theorem dX0_poll_34 : decode cX0_poll 34 = .ok (.aload_n 0, 1) := by decide +kernel
theorem dX0_poll_35 : decode cX0_poll 35 = .ok (.aload_n 2, 1) := by decide +kernel
theorem dX0_poll_36 : decode cX0_poll 36 = .ok (.getfield 82, 3) := by decide +kernel
theorem dX0_poll_39 : decode cX0_poll 39 = .ok (.invokevirtual 117, 3) := by decide +kernel
theorem dX0_poll_42 : decode cX0_poll 42 = .ok (.ifCond .eq 15, 3) := by decide +kernel
theorem dX0_poll_45 : decode cX0_poll 45 = .ok (.aload_n 0, 1) := by decide +kernel
theorem dX0_poll_46 : decode cX0_poll 46 = .ok (.aload_n 2, 1) := by decide +kernel
theorem dX0_poll_47 : decode cX0_poll 47 = .ok (.iload_n 1, 1) := by decide +kernel
theorem dX0_poll_48 : decode cX0_poll 48 = .ok (.invokevirtual 120, 3) := by decide +kernel
theorem dX0_poll_51 : decode cX0_poll 51 = .ok (.iinc 3 1, 3) := by decide +kernel
theorem dX0_poll_54 : decode cX0_poll 54 = .ok (.goto (-30), 3) := by decide +kernel
theorem dX0_poll_57 : decode cX0_poll 57 = .ok (.aload_n 0, 1) := by decide +kernel
theorem dX0_poll_58 : decode cX0_poll 58 = .ok (.aload_n 2, 1) := by decide +kernel
theorem dX0_poll_59 : decode cX0_poll 59 = .ok (.invokevirtual 124, 3) := by decide +kernel
theorem dX0_poll_62 : decode cX0_poll 62 = .ok (.iload_n 3, 1) := by decide +kernel
theorem dX0_poll_63 : decode cX0_poll 63 = .ok (.aload_n 0, 1) := by decide +kernel
theorem dX0_poll_64 : decode cX0_poll 64 = .ok (.getfield 13, 3) := by decide +kernel
theorem dX0_poll_67 : decode cX0_poll 67 = .ok (.iconst 1, 1) := by decide +kernel
theorem dX0_poll_68 : decode cX0_poll 68 = .ok (.iaload, 1) := by decide +kernel
theorem dX0_poll_69 : decode cX0_poll 69 = .ok (.if_icmp .ge 25, 3) := by decide +kernel
theorem dX0_poll_72 : decode cX0_poll 72 = .ok (.aload_n 2, 1) := by decide +kernel
theorem dX0_poll_73 : decode cX0_poll 73 = .ok (.aload_n 0, 1) := by decide +kernel
theorem dX0_poll_74 : decode cX0_poll 74 = .ok (.getfield 13, 3) := by decide +kernel
theorem dX0_poll_77 : decode cX0_poll 77 = .ok (.iconst 2, 1) := by decide +kernel
theorem dX0_poll_78 : decode cX0_poll 78 = .ok (.iaload, 1) := by decide +kernel
theorem dX0_poll_79 : decode cX0_poll 79 = .ok (.iconst 1, 1) := by decide +kernel
theorem dX0_poll_80 : decode cX0_poll 80 = .ok (.if_icmp .ne 7, 3) := by decide +kernel
theorem dX0_poll_83 : decode cX0_poll 83 = .ok (.iconst 1, 1) := by decide +kernel
theorem dX0_poll_84 : decode cX0_poll 84 = .ok (.goto 4, 3) := by decide +kernel
theorem dX0_poll_87 : decode cX0_poll 87 = .ok (.iconst 0, 1) := by decide +kernel
theorem dX0_poll_88 : decode cX0_poll 88 = .ok (.invokevirtual 127, 3) := by decide +kernel
theorem dX0_poll_91 : decode cX0_poll 91 = .ok (.goto 11, 3) := by decide +kernel
theorem dX0_poll_94 : decode cX0_poll 94 = .ok (.aload_n 2, 1) := by decide +kernel
theorem dX0_poll_95 : decode cX0_poll 95 = .ok (.aload_n 0, 1) := by decide +kernel
theorem dX0_poll_96 : decode cX0_poll 96 = .ok (.invokevirtual 131, 3) := by decide +kernel
theorem dX0_poll_99 : decode cX0_poll 99 = .ok (.putfield 96, 3) := by decide +kernel
theorem dX0_poll_102 : decode cX0_poll 102 = .ok (.iload_n 3, 1) := by decide +kernel
theorem dX0_poll_103 : decode cX0_poll 103 = .ok (.ireturn, 1) := by decide +kernel
theorem dX0_takeOldest_0 : decode cX0_takeOldest 0 = .ok (.aload_n 1, 1) := by decide +kernel
theorem dX0_takeOldest_1 : decode cX0_takeOldest 1 = .ok (.getfield 82, 3) := by decide +kernel
theorem dX0_takeOldest_4 : decode cX0_takeOldest 4 = .ok (.istore_n 3, 1) := by decide +kernel
theorem dX0_takeOldest_5 : decode cX0_takeOldest 5 = .ok (.aload_n 0, 1) := by decide +kernel
theorem dX0_takeOldest_6 : decode cX0_takeOldest 6 = .ok (.getfield 37, 3) := by decide +kernel
theorem dX0_takeOldest_9 : decode cX0_takeOldest 9 = .ok (.iload_n 3, 1) := by decide +kernel
theorem dX0_takeOldest_10 : decode cX0_takeOldest 10 = .ok (.iconst 1, 1) := by decide +kernel
theorem dX0_takeOldest_11 : decode cX0_takeOldest 11 = .ok (.iastore, 1) := by decide +kernel
theorem dX0_takeOldest_12 : decode cX0_takeOldest 12 = .ok (.aload_n 0, 1) := by decide +kernel
theorem dX0_takeOldest_13 : decode cX0_takeOldest 13 = .ok (.getfield 40, 3) := by decide +kernel
theorem dX0_takeOldest_16 : decode cX0_takeOldest 16 = .ok (.iload_n 3, 1) := by decide +kernel
theorem dX0_takeOldest_17 : decode cX0_takeOldest 17 = .ok (.aload_n 0, 1) := by decide +kernel
theorem dX0_takeOldest_18 : decode cX0_takeOldest 18 = .ok (.getfield 24, 3) := by decide +kernel
theorem dX0_takeOldest_21 : decode cX0_takeOldest 21 = .ok (.iastore, 1) := by decide +kernel
theorem dX0_takeOldest_22 : decode cX0_takeOldest 22 = .ok (.aload_n 1, 1) := by decide +kernel
theorem dX0_takeOldest_23 : decode cX0_takeOldest 23 = .ok (.aload_n 0, 1) := by decide +kernel
theorem dX0_takeOldest_24 : decode cX0_takeOldest 24 = .ok (.getfield 24, 3) := by decide +kernel
theorem dX0_takeOldest_27 : decode cX0_takeOldest 27 = .ok (.aload_n 0, 1) := by decide +kernel
theorem dX0_takeOldest_28 : decode cX0_takeOldest 28 = .ok (.getfield 34, 3) := by decide +kernel
theorem dX0_takeOldest_31 : decode cX0_takeOldest 31 = .ok (.iload_n 3, 1) := by decide +kernel
theorem dX0_takeOldest_32 : decode cX0_takeOldest 32 = .ok (.iaload, 1) := by decide +kernel
theorem dX0_takeOldest_33 : decode cX0_takeOldest 33 = .ok (.isub, 1) := by decide +kernel
theorem dX0_takeOldest_34 : decode cX0_takeOldest 34 = .ok (.invokevirtual 134, 3) := by decide +kernel
theorem dX0_takeOldest_37 : decode cX0_takeOldest 37 = .ok (.aload_n 1, 1) := by decide +kernel
theorem dX0_takeOldest_38 : decode cX0_takeOldest 38 = .ok (.bipush (-6), 2) := by decide +kernel
theorem dX0_takeOldest_40 : decode cX0_takeOldest 40 = .ok (.putfield 82, 3) := by decide +kernel
theorem dX0_takeOldest_43 : decode cX0_takeOldest 43 = .ok (.iload_n 3, 1) := by decide +kernel
theorem dX0_takeOldest_44 : decode cX0_takeOldest 44 = .ok (.iconst 1, 1) := by decide +kernel
theorem dX0_takeOldest_45 : decode cX0_takeOldest 45 = .ok (.iadd, 1) := by decide +kernel
theorem dX0_takeOldest_46 : decode cX0_takeOldest 46 = .ok (.istore 4, 2) := by decide +kernel
theorem dX0_takeOldest_48 : decode cX0_takeOldest 48 = .ok (.iload 4, 2) := by decide +kernel
theorem dX0_takeOldest_50 : decode cX0_takeOldest 50 = .ok (.aload_n 0, 1) := by decide +kernel
theorem dX0_takeOldest_51 : decode cX0_takeOldest 51 = .ok (.getfield 28, 3) := by decide +kernel
theorem dX0_takeOldest_54 : decode cX0_takeOldest 54 = .ok (.if_icmp .ge 47, 3) := by decide +kernel
theorem dX0_takeOldest_57 : decode cX0_takeOldest 57 = .ok (.aload_n 1, 1) := by decide +kernel
theorem dX0_takeOldest_58 : decode cX0_takeOldest 58 = .ok (.getfield 82, 3) := by decide +kernel
theorem dX0_takeOldest_61 : decode cX0_takeOldest 61 = .ok (.bipush (-6), 2) := by decide +kernel
theorem dX0_takeOldest_63 : decode cX0_takeOldest 63 = .ok (.if_icmp .ne 38, 3) := by decide +kernel
theorem dX0_takeOldest_66 : decode cX0_takeOldest 66 = .ok (.aload_n 0, 1) := by decide +kernel
theorem dX0_takeOldest_67 : decode cX0_takeOldest 67 = .ok (.getfield 37, 3) := by decide +kernel
theorem dX0_takeOldest_70 : decode cX0_takeOldest 70 = .ok (.iload 4, 2) := by decide +kernel
theorem dX0_takeOldest_72 : decode cX0_takeOldest 72 = .ok (.iaload, 1) := by decide +kernel
theorem dX0_takeOldest_73 : decode cX0_takeOldest 73 = .ok (.ifCond .ne 22, 3) := by decide +kernel
theorem dX0_takeOldest_76 : decode cX0_takeOldest 76 = .ok (.aload_n 0, 1) := by decide +kernel
theorem dX0_takeOldest_77 : decode cX0_takeOldest 77 = .ok (.getfield 31, 3) := by decide +kernel
theorem dX0_takeOldest_80 : decode cX0_takeOldest 80 = .ok (.iload 4, 2) := by decide +kernel
theorem dX0_takeOldest_82 : decode cX0_takeOldest 82 = .ok (.iaload, 1) := by decide +kernel
theorem dX0_takeOldest_83 : decode cX0_takeOldest 83 = .ok (.iconst 3, 1) := by decide +kernel
theorem dX0_takeOldest_84 : decode cX0_takeOldest 84 = .ok (.irem, 1) := by decide +kernel
theorem dX0_takeOldest_85 : decode cX0_takeOldest 85 = .ok (.iload_n 2, 1) := by decide +kernel
theorem dX0_takeOldest_86 : decode cX0_takeOldest 86 = .ok (.if_icmp .ne 9, 3) := by decide +kernel
theorem dX0_takeOldest_89 : decode cX0_takeOldest 89 = .ok (.aload_n 1, 1) := by decide +kernel
theorem dX0_takeOldest_90 : decode cX0_takeOldest 90 = .ok (.iload 4, 2) := by decide +kernel
theorem dX0_takeOldest_92 : decode cX0_takeOldest 92 = .ok (.putfield 82, 3) := by decide +kernel
theorem dX0_takeOldest_95 : decode cX0_takeOldest 95 = .ok (.iinc 4 1, 3) := by decide +kernel
theorem dX0_takeOldest_98 : decode cX0_takeOldest 98 = .ok (.goto (-50), 3) := by decide +kernel
theorem dX0_takeOldest_101 : decode cX0_takeOldest 101 = .ok (.return_, 1) := by decide +kernel
theorem dX0_whySilent_0 : decode cX0_whySilent 0 = .ok (.aload_n 1, 1) := by decide +kernel
theorem dX0_whySilent_1 : decode cX0_whySilent 1 = .ok (.invokevirtual 89, 3) := by decide +kernel
theorem dX0_whySilent_4 : decode cX0_whySilent 4 = .ok (.ifCond .eq 5, 3) := by decide +kernel
theorem dX0_whySilent_7 : decode cX0_whySilent 7 = .ok (.iconst 1, 1) := by decide +kernel
theorem dX0_whySilent_8 : decode cX0_whySilent 8 = .ok (.ireturn, 1) := by decide +kernel
theorem dX0_whySilent_9 : decode cX0_whySilent 9 = .ok (.aload_n 1, 1) := by decide +kernel
theorem dX0_whySilent_10 : decode cX0_whySilent 10 = .ok (.getfield 85, 3) := by decide +kernel
theorem dX0_whySilent_13 : decode cX0_whySilent 13 = .ok (.ifCond .eq 5, 3) := by decide +kernel
theorem dX0_whySilent_16 : decode cX0_whySilent 16 = .ok (.iconst 2, 1) := by decide +kernel
theorem dX0_whySilent_17 : decode cX0_whySilent 17 = .ok (.ireturn, 1) := by decide +kernel
theorem dX0_whySilent_18 : decode cX0_whySilent 18 = .ok (.aload_n 0, 1) := by decide +kernel
theorem dX0_whySilent_19 : decode cX0_whySilent 19 = .ok (.aload_n 1, 1) := by decide +kernel
theorem dX0_whySilent_20 : decode cX0_whySilent 20 = .ok (.getfield 82, 3) := by decide +kernel
theorem dX0_whySilent_23 : decode cX0_whySilent 23 = .ok (.invokevirtual 117, 3) := by decide +kernel
theorem dX0_whySilent_26 : decode cX0_whySilent 26 = .ok (.ifCond .ne 5, 3) := by decide +kernel
theorem dX0_whySilent_29 : decode cX0_whySilent 29 = .ok (.iconst 3, 1) := by decide +kernel
theorem dX0_whySilent_30 : decode cX0_whySilent 30 = .ok (.ireturn, 1) := by decide +kernel
theorem dX0_whySilent_31 : decode cX0_whySilent 31 = .ok (.aload_n 1, 1) := by decide +kernel
theorem dX0_whySilent_32 : decode cX0_whySilent 32 = .ok (.getfield 76, 3) := by decide +kernel
theorem dX0_whySilent_35 : decode cX0_whySilent 35 = .ok (.aload_n 1, 1) := by decide +kernel
theorem dX0_whySilent_36 : decode cX0_whySilent 36 = .ok (.getfield 73, 3) := by decide +kernel
theorem dX0_whySilent_39 : decode cX0_whySilent 39 = .ok (.if_icmp .lt 7, 3) := by decide +kernel
theorem dX0_whySilent_42 : decode cX0_whySilent 42 = .ok (.iconst 1, 1) := by decide +kernel
theorem dX0_whySilent_43 : decode cX0_whySilent 43 = .ok (.goto 4, 3) := by decide +kernel
theorem dX0_whySilent_46 : decode cX0_whySilent 46 = .ok (.iconst 0, 1) := by decide +kernel
theorem dX0_whySilent_47 : decode cX0_whySilent 47 = .ok (.istore_n 2, 1) := by decide +kernel
theorem dX0_whySilent_48 : decode cX0_whySilent 48 = .ok (.aload_n 0, 1) := by decide +kernel
theorem dX0_whySilent_49 : decode cX0_whySilent 49 = .ok (.getfield 24, 3) := by decide +kernel
theorem dX0_whySilent_52 : decode cX0_whySilent 52 = .ok (.aload_n 0, 1) := by decide +kernel
theorem dX0_whySilent_53 : decode cX0_whySilent 53 = .ok (.getfield 34, 3) := by decide +kernel
theorem dX0_whySilent_56 : decode cX0_whySilent 56 = .ok (.aload_n 1, 1) := by decide +kernel
theorem dX0_whySilent_57 : decode cX0_whySilent 57 = .ok (.getfield 82, 3) := by decide +kernel
theorem dX0_whySilent_60 : decode cX0_whySilent 60 = .ok (.iaload, 1) := by decide +kernel
theorem dX0_whySilent_61 : decode cX0_whySilent 61 = .ok (.isub, 1) := by decide +kernel
theorem dX0_whySilent_62 : decode cX0_whySilent 62 = .ok (.aload_n 1, 1) := by decide +kernel
theorem dX0_whySilent_63 : decode cX0_whySilent 63 = .ok (.getfield 70, 3) := by decide +kernel
theorem dX0_whySilent_66 : decode cX0_whySilent 66 = .ok (.if_icmp .lt 7, 3) := by decide +kernel
theorem dX0_whySilent_69 : decode cX0_whySilent 69 = .ok (.iconst 1, 1) := by decide +kernel
theorem dX0_whySilent_70 : decode cX0_whySilent 70 = .ok (.goto 4, 3) := by decide +kernel
theorem dX0_whySilent_73 : decode cX0_whySilent 73 = .ok (.iconst 0, 1) := by decide +kernel
theorem dX0_whySilent_74 : decode cX0_whySilent 74 = .ok (.istore_n 3, 1) := by decide +kernel
theorem dX0_whySilent_75 : decode cX0_whySilent 75 = .ok (.iload_n 2, 1) := by decide +kernel
theorem dX0_whySilent_76 : decode cX0_whySilent 76 = .ok (.ifCond .ne 7, 3) := by decide +kernel
theorem dX0_whySilent_79 : decode cX0_whySilent 79 = .ok (.iload_n 3, 1) := by decide +kernel
theorem dX0_whySilent_80 : decode cX0_whySilent 80 = .ok (.ifCond .eq 7, 3) := by decide +kernel
theorem dX0_whySilent_83 : decode cX0_whySilent 83 = .ok (.iconst 0, 1) := by decide +kernel
theorem dX0_whySilent_84 : decode cX0_whySilent 84 = .ok (.goto 4, 3) := by decide +kernel
theorem dX0_whySilent_87 : decode cX0_whySilent 87 = .ok (.iconst 4, 1) := by decide +kernel
theorem dX0_whySilent_88 : decode cX0_whySilent 88 = .ok (.ireturn, 1) := by decide +kernel
theorem dX0_enterRow_0 : decode cX0_enterRow 0 = .ok (.aload_n 1, 1) := by decide +kernel
theorem dX0_enterRow_1 : decode cX0_enterRow 1 = .ok (.aload_n 0, 1) := by decide +kernel
theorem dX0_enterRow_2 : decode cX0_enterRow 2 = .ok (.invokevirtual 131, 3) := by decide +kernel
theorem dX0_enterRow_5 : decode cX0_enterRow 5 = .ok (.putfield 96, 3) := by decide +kernel
theorem dX0_enterRow_8 : decode cX0_enterRow 8 = .ok (.aload_n 1, 1) := by decide +kernel
theorem dX0_enterRow_9 : decode cX0_enterRow 9 = .ok (.dup, 1) := by decide +kernel
theorem dX0_enterRow_10 : decode cX0_enterRow 10 = .ok (.getfield 138, 3) := by decide +kernel
theorem dX0_enterRow_13 : decode cX0_enterRow 13 = .ok (.iconst 1, 1) := by decide +kernel
theorem dX0_enterRow_14 : decode cX0_enterRow 14 = .ok (.iadd, 1) := by decide +kernel
theorem dX0_enterRow_15 : decode cX0_enterRow 15 = .ok (.putfield 138, 3) := by decide +kernel
theorem dX0_enterRow_18 : decode cX0_enterRow 18 = .ok (.aload_n 1, 1) := by decide +kernel
theorem dX0_enterRow_19 : decode cX0_enterRow 19 = .ok (.iconst 0, 1) := by decide +kernel
theorem dX0_enterRow_20 : decode cX0_enterRow 20 = .ok (.putfield 141, 3) := by decide +kernel
theorem dX0_enterRow_23 : decode cX0_enterRow 23 = .ok (.return_, 1) := by decide +kernel
theorem dX0_leaveRow_0 : decode cX0_leaveRow 0 = .ok (.aload_n 0, 1) := by decide +kernel
theorem dX0_leaveRow_1 : decode cX0_leaveRow 1 = .ok (.getfield 20, 3) := by decide +kernel
theorem dX0_leaveRow_4 : decode cX0_leaveRow 4 = .ok (.astore_n 2, 1) := by decide +kernel
theorem dX0_leaveRow_5 : decode cX0_leaveRow 5 = .ok (.aload_n 2, 1) := by decide +kernel
theorem dX0_leaveRow_6 : decode cX0_leaveRow 6 = .ok (.arraylength, 1) := by decide +kernel
theorem dX0_leaveRow_7 : decode cX0_leaveRow 7 = .ok (.istore_n 3, 1) := by decide +kernel
theorem dX0_leaveRow_8 : decode cX0_leaveRow 8 = .ok (.iconst 0, 1) := by decide +kernel
theorem dX0_leaveRow_9 : decode cX0_leaveRow 9 = .ok (.istore 4, 2) := by decide +kernel
theorem dX0_leaveRow_11 : decode cX0_leaveRow 11 = .ok (.iload 4, 2) := by decide +kernel
theorem dX0_leaveRow_13 : decode cX0_leaveRow 13 = .ok (.iload_n 3, 1) := by decide +kernel
theorem dX0_leaveRow_14 : decode cX0_leaveRow 14 = .ok (.if_icmp .ge 38, 3) := by decide +kernel
theorem dX0_leaveRow_17 : decode cX0_leaveRow 17 = .ok (.aload_n 2, 1) := by decide +kernel
theorem dX0_leaveRow_18 : decode cX0_leaveRow 18 = .ok (.iload 4, 2) := by decide +kernel
theorem dX0_leaveRow_20 : decode cX0_leaveRow 20 = .ok (.aaload, 1) := by decide +kernel
theorem dX0_leaveRow_21 : decode cX0_leaveRow 21 = .ok (.astore 5, 2) := by decide +kernel
theorem dX0_leaveRow_23 : decode cX0_leaveRow 23 = .ok (.aload 5, 2) := by decide +kernel
theorem dX0_leaveRow_25 : decode cX0_leaveRow 25 = .ok (.getfield 96, 3) := by decide +kernel
theorem dX0_leaveRow_28 : decode cX0_leaveRow 28 = .ok (.aload_n 1, 1) := by decide +kernel
theorem dX0_leaveRow_29 : decode cX0_leaveRow 29 = .ok (.getfield 96, 3) := by decide +kernel
theorem dX0_leaveRow_32 : decode cX0_leaveRow 32 = .ok (.if_icmp .le 14, 3) := by decide +kernel
theorem dX0_leaveRow_35 : decode cX0_leaveRow 35 = .ok (.aload 5, 2) := by decide +kernel
theorem dX0_leaveRow_37 : decode cX0_leaveRow 37 = .ok (.dup, 1) := by decide +kernel
theorem dX0_leaveRow_38 : decode cX0_leaveRow 38 = .ok (.getfield 96, 3) := by decide +kernel
theorem dX0_leaveRow_41 : decode cX0_leaveRow 41 = .ok (.iconst 1, 1) := by decide +kernel
theorem dX0_leaveRow_42 : decode cX0_leaveRow 42 = .ok (.isub, 1) := by decide +kernel
theorem dX0_leaveRow_43 : decode cX0_leaveRow 43 = .ok (.putfield 96, 3) := by decide +kernel
theorem dX0_leaveRow_46 : decode cX0_leaveRow 46 = .ok (.iinc 4 1, 3) := by decide +kernel
theorem dX0_leaveRow_49 : decode cX0_leaveRow 49 = .ok (.goto (-38), 3) := by decide +kernel
theorem dX0_leaveRow_52 : decode cX0_leaveRow 52 = .ok (.aload_n 1, 1) := by decide +kernel
theorem dX0_leaveRow_53 : decode cX0_leaveRow 53 = .ok (.iconst (-1), 1) := by decide +kernel
theorem dX0_leaveRow_54 : decode cX0_leaveRow 54 = .ok (.putfield 96, 3) := by decide +kernel
theorem dX0_leaveRow_57 : decode cX0_leaveRow 57 = .ok (.return_, 1) := by decide +kernel
theorem dX0_rowLength_0 : decode cX0_rowLength 0 = .ok (.iconst 0, 1) := by decide +kernel
theorem dX0_rowLength_1 : decode cX0_rowLength 1 = .ok (.istore_n 1, 1) := by decide +kernel
theorem dX0_rowLength_2 : decode cX0_rowLength 2 = .ok (.aload_n 0, 1) := by decide +kernel
theorem dX0_rowLength_3 : decode cX0_rowLength 3 = .ok (.getfield 20, 3) := by decide +kernel
theorem dX0_rowLength_6 : decode cX0_rowLength 6 = .ok (.astore_n 2, 1) := by decide +kernel
theorem dX0_rowLength_7 : decode cX0_rowLength 7 = .ok (.aload_n 2, 1) := by decide +kernel
theorem dX0_rowLength_8 : decode cX0_rowLength 8 = .ok (.arraylength, 1) := by decide +kernel
theorem dX0_rowLength_9 : decode cX0_rowLength 9 = .ok (.istore_n 3, 1) := by decide +kernel
theorem dX0_rowLength_10 : decode cX0_rowLength 10 = .ok (.iconst 0, 1) := by decide +kernel
theorem dX0_rowLength_11 : decode cX0_rowLength 11 = .ok (.istore 4, 2) := by decide +kernel
theorem dX0_rowLength_13 : decode cX0_rowLength 13 = .ok (.iload 4, 2) := by decide +kernel
theorem dX0_rowLength_15 : decode cX0_rowLength 15 = .ok (.iload_n 3, 1) := by decide +kernel
theorem dX0_rowLength_16 : decode cX0_rowLength 16 = .ok (.if_icmp .ge 31, 3) := by decide +kernel
theorem dX0_rowLength_19 : decode cX0_rowLength 19 = .ok (.aload_n 2, 1) := by decide +kernel
theorem dX0_rowLength_20 : decode cX0_rowLength 20 = .ok (.iload 4, 2) := by decide +kernel
theorem dX0_rowLength_22 : decode cX0_rowLength 22 = .ok (.aaload, 1) := by decide +kernel
theorem dX0_rowLength_23 : decode cX0_rowLength 23 = .ok (.astore 5, 2) := by decide +kernel
theorem dX0_rowLength_25 : decode cX0_rowLength 25 = .ok (.iload_n 1, 1) := by decide +kernel
theorem dX0_rowLength_26 : decode cX0_rowLength 26 = .ok (.aload 5, 2) := by decide +kernel
theorem dX0_rowLength_28 : decode cX0_rowLength 28 = .ok (.invokevirtual 89, 3) := by decide +kernel
theorem dX0_rowLength_31 : decode cX0_rowLength 31 = .ok (.ifCond .eq 7, 3) := by decide +kernel
theorem dX0_rowLength_34 : decode cX0_rowLength 34 = .ok (.iconst 1, 1) := by decide +kernel
theorem dX0_rowLength_35 : decode cX0_rowLength 35 = .ok (.goto 4, 3) := by decide +kernel
theorem dX0_rowLength_38 : decode cX0_rowLength 38 = .ok (.iconst 0, 1) := by decide +kernel
theorem dX0_rowLength_39 : decode cX0_rowLength 39 = .ok (.iadd, 1) := by decide +kernel
theorem dX0_rowLength_40 : decode cX0_rowLength 40 = .ok (.istore_n 1, 1) := by decide +kernel
theorem dX0_rowLength_41 : decode cX0_rowLength 41 = .ok (.iinc 4 1, 3) := by decide +kernel
theorem dX0_rowLength_44 : decode cX0_rowLength 44 = .ok (.goto (-31), 3) := by decide +kernel
theorem dX0_rowLength_47 : decode cX0_rowLength 47 = .ok (.iload_n 1, 1) := by decide +kernel
theorem dX0_rowLength_48 : decode cX0_rowLength 48 = .ok (.ireturn, 1) := by decide +kernel
theorem dX0_queueAt_0 : decode cX0_queueAt 0 = .ok (.iconst 0, 1) := by decide +kernel
theorem dX0_queueAt_1 : decode cX0_queueAt 1 = .ok (.istore_n 2, 1) := by decide +kernel
theorem dX0_queueAt_2 : decode cX0_queueAt 2 = .ok (.iload_n 2, 1) := by decide +kernel
theorem dX0_queueAt_3 : decode cX0_queueAt 3 = .ok (.iconst 3, 1) := by decide +kernel
theorem dX0_queueAt_4 : decode cX0_queueAt 4 = .ok (.if_icmp .ge 36, 3) := by decide +kernel
theorem dX0_queueAt_7 : decode cX0_queueAt 7 = .ok (.aload_n 0, 1) := by decide +kernel
theorem dX0_queueAt_8 : decode cX0_queueAt 8 = .ok (.getfield 20, 3) := by decide +kernel
theorem dX0_queueAt_11 : decode cX0_queueAt 11 = .ok (.iload_n 2, 1) := by decide +kernel
theorem dX0_queueAt_12 : decode cX0_queueAt 12 = .ok (.aaload, 1) := by decide +kernel
theorem dX0_queueAt_13 : decode cX0_queueAt 13 = .ok (.invokevirtual 89, 3) := by decide +kernel
theorem dX0_queueAt_16 : decode cX0_queueAt 16 = .ok (.ifCond .eq 18, 3) := by decide +kernel
theorem dX0_queueAt_19 : decode cX0_queueAt 19 = .ok (.aload_n 0, 1) := by decide +kernel
theorem dX0_queueAt_20 : decode cX0_queueAt 20 = .ok (.getfield 20, 3) := by decide +kernel
theorem dX0_queueAt_23 : decode cX0_queueAt 23 = .ok (.iload_n 2, 1) := by decide +kernel
theorem dX0_queueAt_24 : decode cX0_queueAt 24 = .ok (.aaload, 1) := by decide +kernel
theorem dX0_queueAt_25 : decode cX0_queueAt 25 = .ok (.getfield 96, 3) := by decide +kernel
theorem dX0_queueAt_28 : decode cX0_queueAt 28 = .ok (.iload_n 1, 1) := by decide +kernel
theorem dX0_queueAt_29 : decode cX0_queueAt 29 = .ok (.if_icmp .ne 5, 3) := by decide +kernel
theorem dX0_queueAt_32 : decode cX0_queueAt 32 = .ok (.iload_n 2, 1) := by decide +kernel
theorem dX0_queueAt_33 : decode cX0_queueAt 33 = .ok (.ireturn, 1) := by decide +kernel
theorem dX0_queueAt_34 : decode cX0_queueAt 34 = .ok (.iinc 2 1, 3) := by decide +kernel
theorem dX0_queueAt_37 : decode cX0_queueAt 37 = .ok (.goto (-35), 3) := by decide +kernel
theorem dX0_queueAt_40 : decode cX0_queueAt 40 = .ok (.iconst (-1), 1) := by decide +kernel
theorem dX0_queueAt_41 : decode cX0_queueAt 41 = .ok (.ireturn, 1) := by decide +kernel
theorem dX0_hasFrame_0 : decode cX0_hasFrame 0 = .ok (.iload_n 1, 1) := by decide +kernel
theorem dX0_hasFrame_1 : decode cX0_hasFrame 1 = .ok (.ifCond .lt 15, 3) := by decide +kernel
theorem dX0_hasFrame_4 : decode cX0_hasFrame 4 = .ok (.iload_n 1, 1) := by decide +kernel
theorem dX0_hasFrame_5 : decode cX0_hasFrame 5 = .ok (.aload_n 0, 1) := by decide +kernel
theorem dX0_hasFrame_6 : decode cX0_hasFrame 6 = .ok (.getfield 28, 3) := by decide +kernel
theorem dX0_hasFrame_9 : decode cX0_hasFrame 9 = .ok (.if_icmp .ge 7, 3) := by decide +kernel
theorem dX0_hasFrame_12 : decode cX0_hasFrame 12 = .ok (.iconst 1, 1) := by decide +kernel
theorem dX0_hasFrame_13 : decode cX0_hasFrame 13 = .ok (.goto 4, 3) := by decide +kernel
theorem dX0_hasFrame_16 : decode cX0_hasFrame 16 = .ok (.iconst 0, 1) := by decide +kernel
theorem dX0_hasFrame_17 : decode cX0_hasFrame 17 = .ok (.ireturn, 1) := by decide +kernel
theorem dX0_frameFact_0 : decode cX0_frameFact 0 = .ok (.iload_n 2, 1) := by decide +kernel
theorem dX0_frameFact_1 : decode cX0_frameFact 1 = .ok (.tableswitch 58 0 3 #[31, 38, 45, 52], 31) := by decide +kernel
theorem dX0_frameFact_32 : decode cX0_frameFact 32 = .ok (.aload_n 0, 1) := by decide +kernel
theorem dX0_frameFact_33 : decode cX0_frameFact 33 = .ok (.getfield 31, 3) := by decide +kernel
theorem dX0_frameFact_36 : decode cX0_frameFact 36 = .ok (.iload_n 1, 1) := by decide +kernel
theorem dX0_frameFact_37 : decode cX0_frameFact 37 = .ok (.iaload, 1) := by decide +kernel
theorem dX0_frameFact_38 : decode cX0_frameFact 38 = .ok (.ireturn, 1) := by decide +kernel
theorem dX0_frameFact_39 : decode cX0_frameFact 39 = .ok (.aload_n 0, 1) := by decide +kernel
theorem dX0_frameFact_40 : decode cX0_frameFact 40 = .ok (.getfield 34, 3) := by decide +kernel
theorem dX0_frameFact_43 : decode cX0_frameFact 43 = .ok (.iload_n 1, 1) := by decide +kernel
theorem dX0_frameFact_44 : decode cX0_frameFact 44 = .ok (.iaload, 1) := by decide +kernel
theorem dX0_frameFact_45 : decode cX0_frameFact 45 = .ok (.ireturn, 1) := by decide +kernel
theorem dX0_frameFact_46 : decode cX0_frameFact 46 = .ok (.aload_n 0, 1) := by decide +kernel
theorem dX0_frameFact_47 : decode cX0_frameFact 47 = .ok (.getfield 37, 3) := by decide +kernel
theorem dX0_frameFact_50 : decode cX0_frameFact 50 = .ok (.iload_n 1, 1) := by decide +kernel
theorem dX0_frameFact_51 : decode cX0_frameFact 51 = .ok (.iaload, 1) := by decide +kernel
theorem dX0_frameFact_52 : decode cX0_frameFact 52 = .ok (.ireturn, 1) := by decide +kernel
theorem dX0_frameFact_53 : decode cX0_frameFact 53 = .ok (.aload_n 0, 1) := by decide +kernel
theorem dX0_frameFact_54 : decode cX0_frameFact 54 = .ok (.iload_n 1, 1) := by decide +kernel
theorem dX0_frameFact_55 : decode cX0_frameFact 55 = .ok (.invokevirtual 144, 3) := by decide +kernel
theorem dX0_frameFact_58 : decode cX0_frameFact 58 = .ok (.ireturn, 1) := by decide +kernel
theorem dX0_frameFact_59 : decode cX0_frameFact 59 = .ok (.bipush (-2), 2) := by decide +kernel
theorem dX0_frameFact_61 : decode cX0_frameFact 61 = .ok (.ireturn, 1) := by decide +kernel
theorem dX0_waitOf_0 : decode cX0_waitOf 0 = .ok (.aload_n 0, 1) := by decide +kernel
theorem dX0_waitOf_1 : decode cX0_waitOf 1 = .ok (.getfield 37, 3) := by decide +kernel
theorem dX0_waitOf_4 : decode cX0_waitOf 4 = .ok (.iload_n 1, 1) := by decide +kernel
theorem dX0_waitOf_5 : decode cX0_waitOf 5 = .ok (.iaload, 1) := by decide +kernel
theorem dX0_waitOf_6 : decode cX0_waitOf 6 = .ok (.iconst 2, 1) := by decide +kernel
theorem dX0_waitOf_7 : decode cX0_waitOf 7 = .ok (.if_icmp .ne 6, 3) := by decide +kernel
theorem dX0_waitOf_10 : decode cX0_waitOf 10 = .ok (.bipush (-6), 2) := by decide +kernel
theorem dX0_waitOf_12 : decode cX0_waitOf 12 = .ok (.ireturn, 1) := by decide +kernel
theorem dX0_waitOf_13 : decode cX0_waitOf 13 = .ok (.aload_n 0, 1) := by decide +kernel
theorem dX0_waitOf_14 : decode cX0_waitOf 14 = .ok (.getfield 37, 3) := by decide +kernel
theorem dX0_waitOf_17 : decode cX0_waitOf 17 = .ok (.iload_n 1, 1) := by decide +kernel
theorem dX0_waitOf_18 : decode cX0_waitOf 18 = .ok (.iaload, 1) := by decide +kernel
theorem dX0_waitOf_19 : decode cX0_waitOf 19 = .ok (.iconst 1, 1) := by decide +kernel
theorem dX0_waitOf_20 : decode cX0_waitOf 20 = .ok (.if_icmp .ne 12, 3) := by decide +kernel
theorem dX0_waitOf_23 : decode cX0_waitOf 23 = .ok (.aload_n 0, 1) := by decide +kernel
theorem dX0_waitOf_24 : decode cX0_waitOf 24 = .ok (.getfield 40, 3) := by decide +kernel
theorem dX0_waitOf_27 : decode cX0_waitOf 27 = .ok (.iload_n 1, 1) := by decide +kernel
theorem dX0_waitOf_28 : decode cX0_waitOf 28 = .ok (.iaload, 1) := by decide +kernel
theorem dX0_waitOf_29 : decode cX0_waitOf 29 = .ok (.goto 7, 3) := by decide +kernel
theorem dX0_waitOf_32 : decode cX0_waitOf 32 = .ok (.aload_n 0, 1) := by decide +kernel
theorem dX0_waitOf_33 : decode cX0_waitOf 33 = .ok (.getfield 24, 3) := by decide +kernel
theorem dX0_waitOf_36 : decode cX0_waitOf 36 = .ok (.istore_n 2, 1) := by decide +kernel
theorem dX0_waitOf_37 : decode cX0_waitOf 37 = .ok (.iload_n 2, 1) := by decide +kernel
theorem dX0_waitOf_38 : decode cX0_waitOf 38 = .ok (.aload_n 0, 1) := by decide +kernel
theorem dX0_waitOf_39 : decode cX0_waitOf 39 = .ok (.getfield 34, 3) := by decide +kernel
theorem dX0_waitOf_42 : decode cX0_waitOf 42 = .ok (.iload_n 1, 1) := by decide +kernel
theorem dX0_waitOf_43 : decode cX0_waitOf 43 = .ok (.iaload, 1) := by decide +kernel
theorem dX0_waitOf_44 : decode cX0_waitOf 44 = .ok (.isub, 1) := by decide +kernel
theorem dX0_waitOf_45 : decode cX0_waitOf 45 = .ok (.ireturn, 1) := by decide +kernel
theorem dX0_total_0 : decode cX0_total 0 = .ok (.iconst 0, 1) := by decide +kernel
theorem dX0_total_1 : decode cX0_total 1 = .ok (.istore_n 2, 1) := by decide +kernel
theorem dX0_total_2 : decode cX0_total 2 = .ok (.aload_n 0, 1) := by decide +kernel
theorem dX0_total_3 : decode cX0_total 3 = .ok (.getfield 20, 3) := by decide +kernel
theorem dX0_total_6 : decode cX0_total 6 = .ok (.astore_n 3, 1) := by decide +kernel
theorem dX0_total_7 : decode cX0_total 7 = .ok (.aload_n 3, 1) := by decide +kernel
theorem dX0_total_8 : decode cX0_total 8 = .ok (.arraylength, 1) := by decide +kernel
theorem dX0_total_9 : decode cX0_total 9 = .ok (.istore 4, 2) := by decide +kernel
theorem dX0_total_11 : decode cX0_total 11 = .ok (.iconst 0, 1) := by decide +kernel
theorem dX0_total_12 : decode cX0_total 12 = .ok (.istore 5, 2) := by decide +kernel
theorem dX0_total_14 : decode cX0_total 14 = .ok (.iload 5, 2) := by decide +kernel
theorem dX0_total_16 : decode cX0_total 16 = .ok (.iload 4, 2) := by decide +kernel
theorem dX0_total_18 : decode cX0_total 18 = .ok (.if_icmp .ge 24, 3) := by decide +kernel
theorem dX0_total_21 : decode cX0_total 21 = .ok (.aload_n 3, 1) := by decide +kernel
theorem dX0_total_22 : decode cX0_total 22 = .ok (.iload 5, 2) := by decide +kernel
theorem dX0_total_24 : decode cX0_total 24 = .ok (.aaload, 1) := by decide +kernel
theorem dX0_total_25 : decode cX0_total 25 = .ok (.astore 6, 2) := by decide +kernel
theorem dX0_total_27 : decode cX0_total 27 = .ok (.iload_n 2, 1) := by decide +kernel
theorem dX0_total_28 : decode cX0_total 28 = .ok (.aload 6, 2) := by decide +kernel
theorem dX0_total_30 : decode cX0_total 30 = .ok (.iload_n 1, 1) := by decide +kernel
theorem dX0_total_31 : decode cX0_total 31 = .ok (.invokevirtual 147, 3) := by decide +kernel
theorem dX0_total_34 : decode cX0_total 34 = .ok (.iadd, 1) := by decide +kernel
theorem dX0_total_35 : decode cX0_total 35 = .ok (.istore_n 2, 1) := by decide +kernel
theorem dX0_total_36 : decode cX0_total 36 = .ok (.iinc 5 1, 3) := by decide +kernel
theorem dX0_total_39 : decode cX0_total 39 = .ok (.goto (-25), 3) := by decide +kernel
theorem dX0_total_42 : decode cX0_total 42 = .ok (.iload_n 2, 1) := by decide +kernel
theorem dX0_total_43 : decode cX0_total 43 = .ok (.ireturn, 1) := by decide +kernel
theorem dX0_maskedSet_0 : decode cX0_maskedSet 0 = .ok (.iconst 0, 1) := by decide +kernel
theorem dX0_maskedSet_1 : decode cX0_maskedSet 1 = .ok (.istore_n 1, 1) := by decide +kernel
theorem dX0_maskedSet_2 : decode cX0_maskedSet 2 = .ok (.iconst 0, 1) := by decide +kernel
theorem dX0_maskedSet_3 : decode cX0_maskedSet 3 = .ok (.istore_n 2, 1) := by decide +kernel
theorem dX0_maskedSet_4 : decode cX0_maskedSet 4 = .ok (.iload_n 2, 1) := by decide +kernel
theorem dX0_maskedSet_5 : decode cX0_maskedSet 5 = .ok (.iconst 3, 1) := by decide +kernel
theorem dX0_maskedSet_6 : decode cX0_maskedSet 6 = .ok (.if_icmp .ge 31, 3) := by decide +kernel
theorem dX0_maskedSet_9 : decode cX0_maskedSet 9 = .ok (.iload_n 1, 1) := by decide +kernel
theorem dX0_maskedSet_10 : decode cX0_maskedSet 10 = .ok (.aload_n 0, 1) := by decide +kernel
theorem dX0_maskedSet_11 : decode cX0_maskedSet 11 = .ok (.getfield 20, 3) := by decide +kernel
theorem dX0_maskedSet_14 : decode cX0_maskedSet 14 = .ok (.iload_n 2, 1) := by decide +kernel
theorem dX0_maskedSet_15 : decode cX0_maskedSet 15 = .ok (.aaload, 1) := by decide +kernel
theorem dX0_maskedSet_16 : decode cX0_maskedSet 16 = .ok (.getfield 85, 3) := by decide +kernel
theorem dX0_maskedSet_19 : decode cX0_maskedSet 19 = .ok (.ifCond .eq 9, 3) := by decide +kernel
theorem dX0_maskedSet_22 : decode cX0_maskedSet 22 = .ok (.iconst 1, 1) := by decide +kernel
theorem dX0_maskedSet_23 : decode cX0_maskedSet 23 = .ok (.iload_n 2, 1) := by decide +kernel
theorem dX0_maskedSet_24 : decode cX0_maskedSet 24 = .ok (.ishl, 1) := by decide +kernel
theorem dX0_maskedSet_25 : decode cX0_maskedSet 25 = .ok (.goto 4, 3) := by decide +kernel
theorem dX0_maskedSet_28 : decode cX0_maskedSet 28 = .ok (.iconst 0, 1) := by decide +kernel
theorem dX0_maskedSet_29 : decode cX0_maskedSet 29 = .ok (.ior, 1) := by decide +kernel
theorem dX0_maskedSet_30 : decode cX0_maskedSet 30 = .ok (.istore_n 1, 1) := by decide +kernel
theorem dX0_maskedSet_31 : decode cX0_maskedSet 31 = .ok (.iinc 2 1, 3) := by decide +kernel
theorem dX0_maskedSet_34 : decode cX0_maskedSet 34 = .ok (.goto (-30), 3) := by decide +kernel
theorem dX0_maskedSet_37 : decode cX0_maskedSet 37 = .ok (.iload_n 1, 1) := by decide +kernel
theorem dX0_maskedSet_38 : decode cX0_maskedSet 38 = .ok (.ireturn, 1) := by decide +kernel
theorem dX1_init_0 : decode cX1_init 0 = .ok (.aload_n 0, 1) := by decide +kernel
theorem dX1_init_1 : decode cX1_init 1 = .ok (.invokespecial 5, 3) := by decide +kernel
theorem dX1_init_4 : decode cX1_init 4 = .ok (.aload_n 0, 1) := by decide +kernel
theorem dX1_init_5 : decode cX1_init 5 = .ok (.bipush 7, 2) := by decide +kernel
theorem dX1_init_7 : decode cX1_init 7 = .ok (.anewarray 11, 3) := by decide +kernel
theorem dX1_init_10 : decode cX1_init 10 = .ok (.putfield 13, 3) := by decide +kernel
theorem dX1_init_13 : decode cX1_init 13 = .ok (.aload_n 0, 1) := by decide +kernel
theorem dX1_init_14 : decode cX1_init 14 = .ok (.iconst 0, 1) := by decide +kernel
theorem dX1_init_15 : decode cX1_init 15 = .ok (.putfield 17, 3) := by decide +kernel
theorem dX1_init_18 : decode cX1_init 18 = .ok (.aload_n 0, 1) := by decide +kernel
theorem dX1_init_19 : decode cX1_init 19 = .ok (.iconst 0, 1) := by decide +kernel
theorem dX1_init_20 : decode cX1_init 20 = .ok (.putfield 21, 3) := by decide +kernel
theorem dX1_init_23 : decode cX1_init 23 = .ok (.iconst 0, 1) := by decide +kernel
theorem dX1_init_24 : decode cX1_init 24 = .ok (.istore_n 1, 1) := by decide +kernel
theorem dX1_init_25 : decode cX1_init 25 = .ok (.iload_n 1, 1) := by decide +kernel
theorem dX1_init_26 : decode cX1_init 26 = .ok (.bipush 7, 2) := by decide +kernel
theorem dX1_init_28 : decode cX1_init 28 = .ok (.if_icmp .ge 22, 3) := by decide +kernel
theorem dX1_init_31 : decode cX1_init 31 = .ok (.aload_n 0, 1) := by decide +kernel
theorem dX1_init_32 : decode cX1_init 32 = .ok (.getfield 13, 3) := by decide +kernel
theorem dX1_init_35 : decode cX1_init 35 = .ok (.iload_n 1, 1) := by decide +kernel
theorem dX1_init_36 : decode cX1_init 36 = .ok (.new 11, 3) := by decide +kernel
theorem dX1_init_39 : decode cX1_init 39 = .ok (.dup, 1) := by decide +kernel
theorem dX1_init_40 : decode cX1_init 40 = .ok (.invokespecial 24, 3) := by decide +kernel
theorem dX1_init_43 : decode cX1_init 43 = .ok (.aastore, 1) := by decide +kernel
theorem dX1_init_44 : decode cX1_init 44 = .ok (.iinc 1 1, 3) := by decide +kernel
theorem dX1_init_47 : decode cX1_init 47 = .ok (.goto (-22), 3) := by decide +kernel
theorem dX1_init_50 : decode cX1_init 50 = .ok (.return_, 1) := by decide +kernel
theorem dX1_prepare_0 : decode cX1_prepare 0 = .ok (.aload_n 0, 1) := by decide +kernel
theorem dX1_prepare_1 : decode cX1_prepare 1 = .ok (.getfield 13, 3) := by decide +kernel
theorem dX1_prepare_4 : decode cX1_prepare 4 = .ok (.aload_n 0, 1) := by decide +kernel
theorem dX1_prepare_5 : decode cX1_prepare 5 = .ok (.getfield 17, 3) := by decide +kernel
theorem dX1_prepare_8 : decode cX1_prepare 8 = .ok (.aaload, 1) := by decide +kernel
theorem dX1_prepare_9 : decode cX1_prepare 9 = .ok (.aload_n 1, 1) := by decide +kernel
theorem dX1_prepare_10 : decode cX1_prepare 10 = .ok (.invokevirtual 25, 3) := by decide +kernel
theorem dX1_prepare_13 : decode cX1_prepare 13 = .ok (.return_, 1) := by decide +kernel
theorem dX1_keepIfDone_0 : decode cX1_keepIfDone 0 = .ok (.iload_n 1, 1) := by decide +kernel
theorem dX1_keepIfDone_1 : decode cX1_keepIfDone 1 = .ok (.ifCond .lt 31, 3) := by decide +kernel
theorem dX1_keepIfDone_4 : decode cX1_keepIfDone 4 = .ok (.aload_n 0, 1) := by decide +kernel
theorem dX1_keepIfDone_5 : decode cX1_keepIfDone 5 = .ok (.aload_n 0, 1) := by decide +kernel
theorem dX1_keepIfDone_6 : decode cX1_keepIfDone 6 = .ok (.getfield 17, 3) := by decide +kernel
theorem dX1_keepIfDone_9 : decode cX1_keepIfDone 9 = .ok (.iconst 1, 1) := by decide +kernel
theorem dX1_keepIfDone_10 : decode cX1_keepIfDone 10 = .ok (.iadd, 1) := by decide +kernel
theorem dX1_keepIfDone_11 : decode cX1_keepIfDone 11 = .ok (.bipush 7, 2) := by decide +kernel
theorem dX1_keepIfDone_13 : decode cX1_keepIfDone 13 = .ok (.irem, 1) := by decide +kernel
theorem dX1_keepIfDone_14 : decode cX1_keepIfDone 14 = .ok (.putfield 17, 3) := by decide +kernel
theorem dX1_keepIfDone_17 : decode cX1_keepIfDone 17 = .ok (.aload_n 0, 1) := by decide +kernel
theorem dX1_keepIfDone_18 : decode cX1_keepIfDone 18 = .ok (.aload_n 0, 1) := by decide +kernel
theorem dX1_keepIfDone_19 : decode cX1_keepIfDone 19 = .ok (.getfield 21, 3) := by decide +kernel
theorem dX1_keepIfDone_22 : decode cX1_keepIfDone 22 = .ok (.iconst 1, 1) := by decide +kernel
theorem dX1_keepIfDone_23 : decode cX1_keepIfDone 23 = .ok (.iadd, 1) := by decide +kernel
theorem dX1_keepIfDone_24 : decode cX1_keepIfDone 24 = .ok (.bipush 6, 2) := by decide +kernel
theorem dX1_keepIfDone_26 : decode cX1_keepIfDone 26 = .ok (.invokestatic 29, 3) := by decide +kernel
theorem dX1_keepIfDone_29 : decode cX1_keepIfDone 29 = .ok (.putfield 21, 3) := by decide +kernel
theorem dX1_keepIfDone_32 : decode cX1_keepIfDone 32 = .ok (.iload_n 1, 1) := by decide +kernel
theorem dX1_keepIfDone_33 : decode cX1_keepIfDone 33 = .ok (.ireturn, 1) := by decide +kernel
theorem dX2_init_0 : decode cX2_init 0 = .ok (.aload_n 0, 1) := by decide +kernel
theorem dX2_init_1 : decode cX2_init 1 = .ok (.invokespecial 3, 3) := by decide +kernel
theorem dX2_init_4 : decode cX2_init 4 = .ok (.aload_n 0, 1) := by decide +kernel
theorem dX2_init_5 : decode cX2_init 5 = .ok (.bipush 80, 2) := by decide +kernel
theorem dX2_init_7 : decode cX2_init 7 = .ok (.newarray .char, 2) := by decide +kernel
theorem dX2_init_9 : decode cX2_init 9 = .ok (.putfield 11, 3) := by decide +kernel
theorem dX2_init_12 : decode cX2_init 12 = .ok (.aload_n 0, 1) := by decide +kernel
theorem dX2_init_13 : decode cX2_init 13 = .ok (.iconst 0, 1) := by decide +kernel
theorem dX2_init_14 : decode cX2_init 14 = .ok (.putfield 15, 3) := by decide +kernel
theorem dX2_init_17 : decode cX2_init 17 = .ok (.aload_n 0, 1) := by decide +kernel
theorem dX2_init_18 : decode cX2_init 18 = .ok (.iconst 0, 1) := by decide +kernel
theorem dX2_init_19 : decode cX2_init 19 = .ok (.putfield 19, 3) := by decide +kernel
theorem dX2_init_22 : decode cX2_init 22 = .ok (.aload_n 0, 1) := by decide +kernel
theorem dX2_init_23 : decode cX2_init 23 = .ok (.iconst 0, 1) := by decide +kernel
theorem dX2_init_24 : decode cX2_init 24 = .ok (.putfield 22, 3) := by decide +kernel
theorem dX2_init_27 : decode cX2_init 27 = .ok (.aload_n 0, 1) := by decide +kernel
theorem dX2_init_28 : decode cX2_init 28 = .ok (.bipush 109, 2) := by decide +kernel
theorem dX2_init_30 : decode cX2_init 30 = .ok (.putfield 26, 3) := by decide +kernel
theorem dX2_init_33 : decode cX2_init 33 = .ok (.aload_n 0, 1) := by decide +kernel
theorem dX2_init_34 : decode cX2_init 34 = .ok (.iconst 0, 1) := by decide +kernel
theorem dX2_init_35 : decode cX2_init 35 = .ok (.putfield 30, 3) := by decide +kernel
theorem dX2_init_38 : decode cX2_init 38 = .ok (.aload_n 0, 1) := by decide +kernel
theorem dX2_init_39 : decode cX2_init 39 = .ok (.iconst 0, 1) := by decide +kernel
theorem dX2_init_40 : decode cX2_init 40 = .ok (.putfield 33, 3) := by decide +kernel
theorem dX2_init_43 : decode cX2_init 43 = .ok (.aload_n 0, 1) := by decide +kernel
theorem dX2_init_44 : decode cX2_init 44 = .ok (.iconst 0, 1) := by decide +kernel
theorem dX2_init_45 : decode cX2_init 45 = .ok (.putfield 36, 3) := by decide +kernel
theorem dX2_init_48 : decode cX2_init 48 = .ok (.aload_n 0, 1) := by decide +kernel
theorem dX2_init_49 : decode cX2_init 49 = .ok (.iconst 0, 1) := by decide +kernel
theorem dX2_init_50 : decode cX2_init 50 = .ok (.putfield 39, 3) := by decide +kernel
theorem dX2_init_53 : decode cX2_init 53 = .ok (.return_, 1) := by decide +kernel
theorem dX2_append_0 : decode cX2_append 0 = .ok (.lload_n 1, 1) := by decide +kernel
theorem dX2_append_1 : decode cX2_append 1 = .ok (.invokestatic 42, 3) := by decide +kernel
theorem dX2_append_4 : decode cX2_append 4 = .ok (.istore_n 3, 1) := by decide +kernel
theorem dX2_append_5 : decode cX2_append 5 = .ok (.iload_n 3, 1) := by decide +kernel
theorem dX2_append_6 : decode cX2_append 6 = .ok (.ifCond .ne 6, 3) := by decide +kernel
theorem dX2_append_9 : decode cX2_append 9 = .ok (.bipush (-2), 2) := by decide +kernel
theorem dX2_append_11 : decode cX2_append 11 = .ok (.ireturn, 1) := by decide +kernel
theorem dX2_append_12 : decode cX2_append 12 = .ok (.aload_n 0, 1) := by decide +kernel
theorem dX2_append_13 : decode cX2_append 13 = .ok (.getfield 15, 3) := by decide +kernel
theorem dX2_append_16 : decode cX2_append 16 = .ok (.iload_n 3, 1) := by decide +kernel
theorem dX2_append_17 : decode cX2_append 17 = .ok (.iadd, 1) := by decide +kernel
theorem dX2_append_18 : decode cX2_append 18 = .ok (.bipush 80, 2) := by decide +kernel
theorem dX2_append_20 : decode cX2_append 20 = .ok (.if_icmp .le 6, 3) := by decide +kernel
theorem dX2_append_23 : decode cX2_append 23 = .ok (.bipush (-4), 2) := by decide +kernel
theorem dX2_append_25 : decode cX2_append 25 = .ok (.ireturn, 1) := by decide +kernel
theorem dX2_append_26 : decode cX2_append 26 = .ok (.iconst 0, 1) := by decide +kernel
theorem dX2_append_27 : decode cX2_append 27 = .ok (.istore 4, 2) := by decide +kernel
theorem dX2_append_29 : decode cX2_append 29 = .ok (.iload 4, 2) := by decide +kernel
theorem dX2_append_31 : decode cX2_append 31 = .ok (.iload_n 3, 1) := by decide +kernel
theorem dX2_append_32 : decode cX2_append 32 = .ok (.if_icmp .ge 38, 3) := by decide +kernel
theorem dX2_append_35 : decode cX2_append 35 = .ok (.aload_n 0, 1) := by decide +kernel
theorem dX2_append_36 : decode cX2_append 36 = .ok (.getfield 11, 3) := by decide +kernel
theorem dX2_append_39 : decode cX2_append 39 = .ok (.aload_n 0, 1) := by decide +kernel
theorem dX2_append_40 : decode cX2_append 40 = .ok (.getfield 15, 3) := by decide +kernel
theorem dX2_append_43 : decode cX2_append 43 = .ok (.iload 4, 2) := by decide +kernel
theorem dX2_append_45 : decode cX2_append 45 = .ok (.iadd, 1) := by decide +kernel
theorem dX2_append_46 : decode cX2_append 46 = .ok (.lload_n 1, 1) := by decide +kernel
theorem dX2_append_47 : decode cX2_append 47 = .ok (.bipush 8, 2) := by decide +kernel
theorem dX2_append_49 : decode cX2_append 49 = .ok (.iload_n 3, 1) := by decide +kernel
theorem dX2_append_50 : decode cX2_append 50 = .ok (.iconst 1, 1) := by decide +kernel
theorem dX2_append_51 : decode cX2_append 51 = .ok (.isub, 1) := by decide +kernel
theorem dX2_append_52 : decode cX2_append 52 = .ok (.iload 4, 2) := by decide +kernel
theorem dX2_append_54 : decode cX2_append 54 = .ok (.isub, 1) := by decide +kernel
theorem dX2_append_55 : decode cX2_append 55 = .ok (.imul, 1) := by decide +kernel
theorem dX2_append_56 : decode cX2_append 56 = .ok (.lushr, 1) := by decide +kernel
theorem dX2_append_57 : decode cX2_append 57 = .ok (.ldc2_w 46, 3) := by decide +kernel
theorem dX2_append_60 : decode cX2_append 60 = .ok (.land, 1) := by decide +kernel
theorem dX2_append_61 : decode cX2_append 61 = .ok (.l2i, 1) := by decide +kernel
theorem dX2_append_62 : decode cX2_append 62 = .ok (.i2c, 1) := by decide +kernel
theorem dX2_append_63 : decode cX2_append 63 = .ok (.castore, 1) := by decide +kernel
theorem dX2_append_64 : decode cX2_append 64 = .ok (.iinc 4 1, 3) := by decide +kernel
theorem dX2_append_67 : decode cX2_append 67 = .ok (.goto (-38), 3) := by decide +kernel
theorem dX2_append_70 : decode cX2_append 70 = .ok (.aload_n 0, 1) := by decide +kernel
theorem dX2_append_71 : decode cX2_append 71 = .ok (.dup, 1) := by decide +kernel
theorem dX2_append_72 : decode cX2_append 72 = .ok (.getfield 15, 3) := by decide +kernel
theorem dX2_append_75 : decode cX2_append 75 = .ok (.iload_n 3, 1) := by decide +kernel
theorem dX2_append_76 : decode cX2_append 76 = .ok (.iadd, 1) := by decide +kernel
theorem dX2_append_77 : decode cX2_append 77 = .ok (.putfield 15, 3) := by decide +kernel
theorem dX2_append_80 : decode cX2_append 80 = .ok (.aload_n 0, 1) := by decide +kernel
theorem dX2_append_81 : decode cX2_append 81 = .ok (.getfield 15, 3) := by decide +kernel
theorem dX2_append_84 : decode cX2_append 84 = .ok (.ireturn, 1) := by decide +kernel
theorem dX2_sizeOf_0 : decode cX2_sizeOf 0 = .ok (.lload_n 0, 1) := by decide +kernel
theorem dX2_sizeOf_1 : decode cX2_sizeOf 1 = .ok (.lstore_n 2, 1) := by decide +kernel
theorem dX2_sizeOf_2 : decode cX2_sizeOf 2 = .ok (.iconst 0, 1) := by decide +kernel
theorem dX2_sizeOf_3 : decode cX2_sizeOf 3 = .ok (.istore 4, 2) := by decide +kernel
theorem dX2_sizeOf_5 : decode cX2_sizeOf 5 = .ok (.iload 4, 2) := by decide +kernel
theorem dX2_sizeOf_7 : decode cX2_sizeOf 7 = .ok (.bipush 8, 2) := by decide +kernel
theorem dX2_sizeOf_9 : decode cX2_sizeOf 9 = .ok (.if_icmp .ge 47, 3) := by decide +kernel
theorem dX2_sizeOf_12 : decode cX2_sizeOf 12 = .ok (.lload_n 2, 1) := by decide +kernel
theorem dX2_sizeOf_13 : decode cX2_sizeOf 13 = .ok (.lconst 0, 1) := by decide +kernel
theorem dX2_sizeOf_14 : decode cX2_sizeOf 14 = .ok (.lcmp, 1) := by decide +kernel
theorem dX2_sizeOf_15 : decode cX2_sizeOf 15 = .ok (.ifCond .eq 41, 3) := by decide +kernel
theorem dX2_sizeOf_18 : decode cX2_sizeOf 18 = .ok (.lload_n 2, 1) := by decide +kernel
theorem dX2_sizeOf_19 : decode cX2_sizeOf 19 = .ok (.ldc2_w 46, 3) := by decide +kernel
theorem dX2_sizeOf_22 : decode cX2_sizeOf 22 = .ok (.land, 1) := by decide +kernel
theorem dX2_sizeOf_23 : decode cX2_sizeOf 23 = .ok (.lstore 5, 2) := by decide +kernel
theorem dX2_sizeOf_25 : decode cX2_sizeOf 25 = .ok (.lload 5, 2) := by decide +kernel
theorem dX2_sizeOf_27 : decode cX2_sizeOf 27 = .ok (.ldc2_w 48, 3) := by decide +kernel
theorem dX2_sizeOf_30 : decode cX2_sizeOf 30 = .ok (.lcmp, 1) := by decide +kernel
theorem dX2_sizeOf_31 : decode cX2_sizeOf 31 = .ok (.ifCond .lt 12, 3) := by decide +kernel
theorem dX2_sizeOf_34 : decode cX2_sizeOf 34 = .ok (.lload 5, 2) := by decide +kernel
theorem dX2_sizeOf_36 : decode cX2_sizeOf 36 = .ok (.ldc2_w 50, 3) := by decide +kernel
theorem dX2_sizeOf_39 : decode cX2_sizeOf 39 = .ok (.lcmp, 1) := by decide +kernel
theorem dX2_sizeOf_40 : decode cX2_sizeOf 40 = .ok (.ifCond .le 5, 3) := by decide +kernel
theorem dX2_sizeOf_43 : decode cX2_sizeOf 43 = .ok (.iconst 0, 1) := by decide +kernel
theorem dX2_sizeOf_44 : decode cX2_sizeOf 44 = .ok (.ireturn, 1) := by decide +kernel
theorem dX2_sizeOf_45 : decode cX2_sizeOf 45 = .ok (.lload_n 2, 1) := by decide +kernel
theorem dX2_sizeOf_46 : decode cX2_sizeOf 46 = .ok (.bipush 8, 2) := by decide +kernel
theorem dX2_sizeOf_48 : decode cX2_sizeOf 48 = .ok (.lushr, 1) := by decide +kernel
theorem dX2_sizeOf_49 : decode cX2_sizeOf 49 = .ok (.lstore_n 2, 1) := by decide +kernel
theorem dX2_sizeOf_50 : decode cX2_sizeOf 50 = .ok (.iinc 4 1, 3) := by decide +kernel
theorem dX2_sizeOf_53 : decode cX2_sizeOf 53 = .ok (.goto (-48), 3) := by decide +kernel
theorem dX2_sizeOf_56 : decode cX2_sizeOf 56 = .ok (.iload 4, 2) := by decide +kernel
theorem dX2_sizeOf_58 : decode cX2_sizeOf 58 = .ok (.ireturn, 1) := by decide +kernel
theorem dX2_clear_0 : decode cX2_clear 0 = .ok (.aload_n 0, 1) := by decide +kernel
theorem dX2_clear_1 : decode cX2_clear 1 = .ok (.getfield 15, 3) := by decide +kernel
theorem dX2_clear_4 : decode cX2_clear 4 = .ok (.istore_n 1, 1) := by decide +kernel
theorem dX2_clear_5 : decode cX2_clear 5 = .ok (.aload_n 0, 1) := by decide +kernel
theorem dX2_clear_6 : decode cX2_clear 6 = .ok (.iconst 0, 1) := by decide +kernel
theorem dX2_clear_7 : decode cX2_clear 7 = .ok (.putfield 15, 3) := by decide +kernel
theorem dX2_clear_10 : decode cX2_clear 10 = .ok (.iload_n 1, 1) := by decide +kernel
theorem dX2_clear_11 : decode cX2_clear 11 = .ok (.ireturn, 1) := by decide +kernel
theorem dX2_firstFault_0 : decode cX2_firstFault 0 = .ok (.aload_n 0, 1) := by decide +kernel
theorem dX2_firstFault_1 : decode cX2_firstFault 1 = .ok (.invokevirtual 52, 3) := by decide +kernel
theorem dX2_firstFault_4 : decode cX2_firstFault 4 = .ok (.iconst 1, 1) := by decide +kernel
theorem dX2_firstFault_5 : decode cX2_firstFault 5 = .ok (.istore_n 1, 1) := by decide +kernel
theorem dX2_firstFault_6 : decode cX2_firstFault 6 = .ok (.iconst 0, 1) := by decide +kernel
theorem dX2_firstFault_7 : decode cX2_firstFault 7 = .ok (.istore_n 2, 1) := by decide +kernel
theorem dX2_firstFault_8 : decode cX2_firstFault 8 = .ok (.iload_n 2, 1) := by decide +kernel
theorem dX2_firstFault_9 : decode cX2_firstFault 9 = .ok (.bipush 80, 2) := by decide +kernel
theorem dX2_firstFault_11 : decode cX2_firstFault 11 = .ok (.if_icmp .ge 18, 3) := by decide +kernel
theorem dX2_firstFault_14 : decode cX2_firstFault 14 = .ok (.iload_n 1, 1) := by decide +kernel
theorem dX2_firstFault_15 : decode cX2_firstFault 15 = .ok (.ifCond .eq 14, 3) := by decide +kernel
theorem dX2_firstFault_18 : decode cX2_firstFault 18 = .ok (.aload_n 0, 1) := by decide +kernel
theorem dX2_firstFault_19 : decode cX2_firstFault 19 = .ok (.invokevirtual 55, 3) := by decide +kernel
theorem dX2_firstFault_22 : decode cX2_firstFault 22 = .ok (.istore_n 1, 1) := by decide +kernel
theorem dX2_firstFault_23 : decode cX2_firstFault 23 = .ok (.iinc 2 1, 3) := by decide +kernel
theorem dX2_firstFault_26 : decode cX2_firstFault 26 = .ok (.goto (-18), 3) := by decide +kernel
theorem dX2_firstFault_29 : decode cX2_firstFault 29 = .ok (.aload_n 0, 1) := by decide +kernel
theorem dX2_firstFault_30 : decode cX2_firstFault 30 = .ok (.getfield 22, 3) := by decide +kernel
theorem dX2_firstFault_33 : decode cX2_firstFault 33 = .ok (.ifCond .ne 14, 3) := by decide +kernel
theorem dX2_firstFault_36 : decode cX2_firstFault 36 = .ok (.aload_n 0, 1) := by decide +kernel
theorem dX2_firstFault_37 : decode cX2_firstFault 37 = .ok (.getfield 19, 3) := by decide +kernel
theorem dX2_firstFault_40 : decode cX2_firstFault 40 = .ok (.aload_n 0, 1) := by decide +kernel
theorem dX2_firstFault_41 : decode cX2_firstFault 41 = .ok (.getfield 15, 3) := by decide +kernel
theorem dX2_firstFault_44 : decode cX2_firstFault 44 = .ok (.if_icmp .ge 10, 3) := by decide +kernel
theorem dX2_firstFault_47 : decode cX2_firstFault 47 = .ok (.aload_n 0, 1) := by decide +kernel
theorem dX2_firstFault_48 : decode cX2_firstFault 48 = .ok (.getfield 19, 3) := by decide +kernel
theorem dX2_firstFault_51 : decode cX2_firstFault 51 = .ok (.goto 5, 3) := by decide +kernel
theorem dX2_firstFault_54 : decode cX2_firstFault 54 = .ok (.bipush (-6), 2) := by decide +kernel
theorem dX2_firstFault_56 : decode cX2_firstFault 56 = .ok (.ireturn, 1) := by decide +kernel
theorem dX2_startReading_0 : decode cX2_startReading 0 = .ok (.aload_n 0, 1) := by decide +kernel
theorem dX2_startReading_1 : decode cX2_startReading 1 = .ok (.iconst 0, 1) := by decide +kernel
theorem dX2_startReading_2 : decode cX2_startReading 2 = .ok (.putfield 19, 3) := by decide +kernel
theorem dX2_startReading_5 : decode cX2_startReading 5 = .ok (.aload_n 0, 1) := by decide +kernel
theorem dX2_startReading_6 : decode cX2_startReading 6 = .ok (.iconst 0, 1) := by decide +kernel
theorem dX2_startReading_7 : decode cX2_startReading 7 = .ok (.putfield 22, 3) := by decide +kernel
theorem dX2_startReading_10 : decode cX2_startReading 10 = .ok (.return_, 1) := by decide +kernel
theorem dX2_readOrder_0 : decode cX2_readOrder 0 = .ok (.aload_n 0, 1) := by decide +kernel
theorem dX2_readOrder_1 : decode cX2_readOrder 1 = .ok (.getfield 19, 3) := by decide +kernel
theorem dX2_readOrder_4 : decode cX2_readOrder 4 = .ok (.ifCond .le 14, 3) := by decide +kernel
theorem dX2_readOrder_7 : decode cX2_readOrder 7 = .ok (.aload_n 0, 1) := by decide +kernel
theorem dX2_readOrder_8 : decode cX2_readOrder 8 = .ok (.bipush 59, 2) := by decide +kernel
theorem dX2_readOrder_10 : decode cX2_readOrder 10 = .ok (.invokevirtual 59, 3) := by decide +kernel
theorem dX2_readOrder_13 : decode cX2_readOrder 13 = .ok (.ifCond .ne 5, 3) := by decide +kernel
theorem dX2_readOrder_16 : decode cX2_readOrder 16 = .ok (.iconst 0, 1) := by decide +kernel
theorem dX2_readOrder_17 : decode cX2_readOrder 17 = .ok (.ireturn, 1) := by decide +kernel
theorem dX2_readOrder_18 : decode cX2_readOrder 18 = .ok (.aload_n 0, 1) := by decide +kernel
theorem dX2_readOrder_19 : decode cX2_readOrder 19 = .ok (.iconst 1, 1) := by decide +kernel
theorem dX2_readOrder_20 : decode cX2_readOrder 20 = .ok (.putfield 39, 3) := by decide +kernel
theorem dX2_readOrder_23 : decode cX2_readOrder 23 = .ok (.aload_n 0, 1) := by decide +kernel
theorem dX2_readOrder_24 : decode cX2_readOrder 24 = .ok (.bipush 102, 2) := by decide +kernel
theorem dX2_readOrder_26 : decode cX2_readOrder 26 = .ok (.invokevirtual 59, 3) := by decide +kernel
theorem dX2_readOrder_29 : decode cX2_readOrder 29 = .ok (.ifCond .eq 10, 3) := by decide +kernel
theorem dX2_readOrder_32 : decode cX2_readOrder 32 = .ok (.aload_n 0, 1) := by decide +kernel
theorem dX2_readOrder_33 : decode cX2_readOrder 33 = .ok (.invokevirtual 63, 3) := by decide +kernel
theorem dX2_readOrder_36 : decode cX2_readOrder 36 = .ok (.goto 76, 3) := by decide +kernel
theorem dX2_readOrder_39 : decode cX2_readOrder 39 = .ok (.aload_n 0, 1) := by decide +kernel
theorem dX2_readOrder_40 : decode cX2_readOrder 40 = .ok (.bipush 116, 2) := by decide +kernel
theorem dX2_readOrder_42 : decode cX2_readOrder 42 = .ok (.invokevirtual 59, 3) := by decide +kernel
theorem dX2_readOrder_45 : decode cX2_readOrder 45 = .ok (.ifCond .eq 20, 3) := by decide +kernel
theorem dX2_readOrder_48 : decode cX2_readOrder 48 = .ok (.aload_n 0, 1) := by decide +kernel
theorem dX2_readOrder_49 : decode cX2_readOrder 49 = .ok (.bipush 116, 2) := by decide +kernel
theorem dX2_readOrder_51 : decode cX2_readOrder 51 = .ok (.putfield 26, 3) := by decide +kernel
theorem dX2_readOrder_54 : decode cX2_readOrder 54 = .ok (.aload_n 0, 1) := by decide +kernel
theorem dX2_readOrder_55 : decode cX2_readOrder 55 = .ok (.aload_n 0, 1) := by decide +kernel
theorem dX2_readOrder_56 : decode cX2_readOrder 56 = .ok (.invokevirtual 66, 3) := by decide +kernel
theorem dX2_readOrder_59 : decode cX2_readOrder 59 = .ok (.putfield 30, 3) := by decide +kernel
theorem dX2_readOrder_62 : decode cX2_readOrder 62 = .ok (.goto 50, 3) := by decide +kernel
theorem dX2_readOrder_65 : decode cX2_readOrder 65 = .ok (.aload_n 0, 1) := by decide +kernel
theorem dX2_readOrder_66 : decode cX2_readOrder 66 = .ok (.bipush 113, 2) := by decide +kernel
theorem dX2_readOrder_68 : decode cX2_readOrder 68 = .ok (.invokevirtual 59, 3) := by decide +kernel
theorem dX2_readOrder_71 : decode cX2_readOrder 71 = .ok (.ifCond .eq 10, 3) := by decide +kernel
theorem dX2_readOrder_74 : decode cX2_readOrder 74 = .ok (.aload_n 0, 1) := by decide +kernel
theorem dX2_readOrder_75 : decode cX2_readOrder 75 = .ok (.invokevirtual 70, 3) := by decide +kernel
theorem dX2_readOrder_78 : decode cX2_readOrder 78 = .ok (.goto 34, 3) := by decide +kernel
theorem dX2_readOrder_81 : decode cX2_readOrder 81 = .ok (.aload_n 0, 1) := by decide +kernel
theorem dX2_readOrder_82 : decode cX2_readOrder 82 = .ok (.bipush 109, 2) := by decide +kernel
theorem dX2_readOrder_84 : decode cX2_readOrder 84 = .ok (.invokevirtual 59, 3) := by decide +kernel
theorem dX2_readOrder_87 : decode cX2_readOrder 87 = .ok (.ifCond .eq 20, 3) := by decide +kernel
theorem dX2_readOrder_90 : decode cX2_readOrder 90 = .ok (.aload_n 0, 1) := by decide +kernel
theorem dX2_readOrder_91 : decode cX2_readOrder 91 = .ok (.bipush 109, 2) := by decide +kernel
theorem dX2_readOrder_93 : decode cX2_readOrder 93 = .ok (.putfield 26, 3) := by decide +kernel
theorem dX2_readOrder_96 : decode cX2_readOrder 96 = .ok (.aload_n 0, 1) := by decide +kernel
theorem dX2_readOrder_97 : decode cX2_readOrder 97 = .ok (.aload_n 0, 1) := by decide +kernel
theorem dX2_readOrder_98 : decode cX2_readOrder 98 = .ok (.invokevirtual 73, 3) := by decide +kernel
theorem dX2_readOrder_101 : decode cX2_readOrder 101 = .ok (.putfield 30, 3) := by decide +kernel
theorem dX2_readOrder_104 : decode cX2_readOrder 104 = .ok (.goto 8, 3) := by decide +kernel
theorem dX2_readOrder_107 : decode cX2_readOrder 107 = .ok (.aload_n 0, 1) := by decide +kernel
theorem dX2_readOrder_108 : decode cX2_readOrder 108 = .ok (.iconst 1, 1) := by decide +kernel
theorem dX2_readOrder_109 : decode cX2_readOrder 109 = .ok (.putfield 22, 3) := by decide +kernel
theorem dX2_readOrder_112 : decode cX2_readOrder 112 = .ok (.aload_n 0, 1) := by decide +kernel
theorem dX2_readOrder_113 : decode cX2_readOrder 113 = .ok (.getfield 22, 3) := by decide +kernel
theorem dX2_readOrder_116 : decode cX2_readOrder 116 = .ok (.ifCond .ne 7, 3) := by decide +kernel
theorem dX2_readOrder_119 : decode cX2_readOrder 119 = .ok (.iconst 1, 1) := by decide +kernel
theorem dX2_readOrder_120 : decode cX2_readOrder 120 = .ok (.goto 4, 3) := by decide +kernel
theorem dX2_readOrder_123 : decode cX2_readOrder 123 = .ok (.iconst 0, 1) := by decide +kernel
theorem dX2_readOrder_124 : decode cX2_readOrder 124 = .ok (.ireturn, 1) := by decide +kernel
theorem dX2_readFrames_0 : decode cX2_readFrames 0 = .ok (.aload_n 0, 1) := by decide +kernel
theorem dX2_readFrames_1 : decode cX2_readFrames 1 = .ok (.bipush 102, 2) := by decide +kernel
theorem dX2_readFrames_3 : decode cX2_readFrames 3 = .ok (.putfield 26, 3) := by decide +kernel
theorem dX2_readFrames_6 : decode cX2_readFrames 6 = .ok (.aload_n 0, 1) := by decide +kernel
theorem dX2_readFrames_7 : decode cX2_readFrames 7 = .ok (.aload_n 0, 1) := by decide +kernel
theorem dX2_readFrames_8 : decode cX2_readFrames 8 = .ok (.invokevirtual 66, 3) := by decide +kernel
theorem dX2_readFrames_11 : decode cX2_readFrames 11 = .ok (.putfield 30, 3) := by decide +kernel
theorem dX2_readFrames_14 : decode cX2_readFrames 14 = .ok (.aload_n 0, 1) := by decide +kernel
theorem dX2_readFrames_15 : decode cX2_readFrames 15 = .ok (.bipush 42, 2) := by decide +kernel
theorem dX2_readFrames_17 : decode cX2_readFrames 17 = .ok (.invokevirtual 59, 3) := by decide +kernel
theorem dX2_readFrames_20 : decode cX2_readFrames 20 = .ok (.ifCond .eq 11, 3) := by decide +kernel
theorem dX2_readFrames_23 : decode cX2_readFrames 23 = .ok (.aload_n 0, 1) := by decide +kernel
theorem dX2_readFrames_24 : decode cX2_readFrames 24 = .ok (.aload_n 0, 1) := by decide +kernel
theorem dX2_readFrames_25 : decode cX2_readFrames 25 = .ok (.invokevirtual 66, 3) := by decide +kernel
theorem dX2_readFrames_28 : decode cX2_readFrames 28 = .ok (.putfield 39, 3) := by decide +kernel
theorem dX2_readFrames_31 : decode cX2_readFrames 31 = .ok (.return_, 1) := by decide +kernel
theorem dX2_readBounds_0 : decode cX2_readBounds 0 = .ok (.aload_n 0, 1) := by decide +kernel
theorem dX2_readBounds_1 : decode cX2_readBounds 1 = .ok (.bipush 113, 2) := by decide +kernel
theorem dX2_readBounds_3 : decode cX2_readBounds 3 = .ok (.putfield 26, 3) := by decide +kernel
theorem dX2_readBounds_6 : decode cX2_readBounds 6 = .ok (.aload_n 0, 1) := by decide +kernel
theorem dX2_readBounds_7 : decode cX2_readBounds 7 = .ok (.aload_n 0, 1) := by decide +kernel
theorem dX2_readBounds_8 : decode cX2_readBounds 8 = .ok (.invokevirtual 73, 3) := by decide +kernel
theorem dX2_readBounds_11 : decode cX2_readBounds 11 = .ok (.putfield 30, 3) := by decide +kernel
theorem dX2_readBounds_14 : decode cX2_readBounds 14 = .ok (.aload_n 0, 1) := by decide +kernel
theorem dX2_readBounds_15 : decode cX2_readBounds 15 = .ok (.bipush 61, 2) := by decide +kernel
theorem dX2_readBounds_17 : decode cX2_readBounds 17 = .ok (.invokevirtual 76, 3) := by decide +kernel
theorem dX2_readBounds_20 : decode cX2_readBounds 20 = .ok (.aload_n 0, 1) := by decide +kernel
theorem dX2_readBounds_21 : decode cX2_readBounds 21 = .ok (.aload_n 0, 1) := by decide +kernel
theorem dX2_readBounds_22 : decode cX2_readBounds 22 = .ok (.invokevirtual 66, 3) := by decide +kernel
theorem dX2_readBounds_25 : decode cX2_readBounds 25 = .ok (.putfield 33, 3) := by decide +kernel
theorem dX2_readBounds_28 : decode cX2_readBounds 28 = .ok (.aload_n 0, 1) := by decide +kernel
theorem dX2_readBounds_29 : decode cX2_readBounds 29 = .ok (.bipush 44, 2) := by decide +kernel
theorem dX2_readBounds_31 : decode cX2_readBounds 31 = .ok (.invokevirtual 76, 3) := by decide +kernel
theorem dX2_readBounds_34 : decode cX2_readBounds 34 = .ok (.aload_n 0, 1) := by decide +kernel
end
section
theorem dX2_readBounds_35 : decode cX2_readBounds 35 = .ok (.aload_n 0, 1) := by decide +kernel
theorem dX2_readBounds_36 : decode cX2_readBounds 36 = .ok (.invokevirtual 66, 3) := by decide +kernel
theorem dX2_readBounds_39 : decode cX2_readBounds 39 = .ok (.putfield 36, 3) := by decide +kernel
theorem dX2_readBounds_42 : decode cX2_readBounds 42 = .ok (.return_, 1) := by decide +kernel
theorem dX2_readNumber_0 : decode cX2_readNumber 0 = .ok (.aload_n 0, 1) := by decide +kernel
theorem dX2_readNumber_1 : decode cX2_readNumber 1 = .ok (.invokevirtual 73, 3) := by decide +kernel
theorem dX2_readNumber_4 : decode cX2_readNumber 4 = .ok (.istore_n 1, 1) := by decide +kernel
theorem dX2_readNumber_5 : decode cX2_readNumber 5 = .ok (.iload_n 1, 1) := by decide +kernel
theorem dX2_readNumber_6 : decode cX2_readNumber 6 = .ok (.ifCond .le 20, 3) := by decide +kernel
theorem dX2_readNumber_9 : decode cX2_readNumber 9 = .ok (.aload_n 0, 1) := by decide +kernel
theorem dX2_readNumber_10 : decode cX2_readNumber 10 = .ok (.invokevirtual 80, 3) := by decide +kernel
theorem dX2_readNumber_13 : decode cX2_readNumber 13 = .ok (.ifCond .eq 13, 3) := by decide +kernel
theorem dX2_readNumber_16 : decode cX2_readNumber 16 = .ok (.bipush 10, 2) := by decide +kernel
theorem dX2_readNumber_18 : decode cX2_readNumber 18 = .ok (.iload_n 1, 1) := by decide +kernel
theorem dX2_readNumber_19 : decode cX2_readNumber 19 = .ok (.imul, 1) := by decide +kernel
theorem dX2_readNumber_20 : decode cX2_readNumber 20 = .ok (.aload_n 0, 1) := by decide +kernel
theorem dX2_readNumber_21 : decode cX2_readNumber 21 = .ok (.invokevirtual 73, 3) := by decide +kernel
theorem dX2_readNumber_24 : decode cX2_readNumber 24 = .ok (.iadd, 1) := by decide +kernel
theorem dX2_readNumber_25 : decode cX2_readNumber 25 = .ok (.istore_n 1, 1) := by decide +kernel
theorem dX2_readNumber_26 : decode cX2_readNumber 26 = .ok (.iload_n 1, 1) := by decide +kernel
theorem dX2_readNumber_27 : decode cX2_readNumber 27 = .ok (.ireturn, 1) := by decide +kernel
theorem dX2_readDigit_0 : decode cX2_readDigit 0 = .ok (.aload_n 0, 1) := by decide +kernel
theorem dX2_readDigit_1 : decode cX2_readDigit 1 = .ok (.invokevirtual 80, 3) := by decide +kernel
theorem dX2_readDigit_4 : decode cX2_readDigit 4 = .ok (.ifCond .ne 10, 3) := by decide +kernel
theorem dX2_readDigit_7 : decode cX2_readDigit 7 = .ok (.aload_n 0, 1) := by decide +kernel
theorem dX2_readDigit_8 : decode cX2_readDigit 8 = .ok (.iconst 1, 1) := by decide +kernel
theorem dX2_readDigit_9 : decode cX2_readDigit 9 = .ok (.putfield 22, 3) := by decide +kernel
theorem dX2_readDigit_12 : decode cX2_readDigit 12 = .ok (.iconst 0, 1) := by decide +kernel
theorem dX2_readDigit_13 : decode cX2_readDigit 13 = .ok (.ireturn, 1) := by decide +kernel
theorem dX2_readDigit_14 : decode cX2_readDigit 14 = .ok (.aload_n 0, 1) := by decide +kernel
theorem dX2_readDigit_15 : decode cX2_readDigit 15 = .ok (.getfield 11, 3) := by decide +kernel
theorem dX2_readDigit_18 : decode cX2_readDigit 18 = .ok (.aload_n 0, 1) := by decide +kernel
theorem dX2_readDigit_19 : decode cX2_readDigit 19 = .ok (.getfield 19, 3) := by decide +kernel
theorem dX2_readDigit_22 : decode cX2_readDigit 22 = .ok (.caload, 1) := by decide +kernel
theorem dX2_readDigit_23 : decode cX2_readDigit 23 = .ok (.bipush 48, 2) := by decide +kernel
theorem dX2_readDigit_25 : decode cX2_readDigit 25 = .ok (.isub, 1) := by decide +kernel
theorem dX2_readDigit_26 : decode cX2_readDigit 26 = .ok (.istore_n 1, 1) := by decide +kernel
theorem dX2_readDigit_27 : decode cX2_readDigit 27 = .ok (.aload_n 0, 1) := by decide +kernel
theorem dX2_readDigit_28 : decode cX2_readDigit 28 = .ok (.dup, 1) := by decide +kernel
theorem dX2_readDigit_29 : decode cX2_readDigit 29 = .ok (.getfield 19, 3) := by decide +kernel
theorem dX2_readDigit_32 : decode cX2_readDigit 32 = .ok (.iconst 1, 1) := by decide +kernel
theorem dX2_readDigit_33 : decode cX2_readDigit 33 = .ok (.iadd, 1) := by decide +kernel
theorem dX2_readDigit_34 : decode cX2_readDigit 34 = .ok (.putfield 19, 3) := by decide +kernel
theorem dX2_readDigit_37 : decode cX2_readDigit 37 = .ok (.iload_n 1, 1) := by decide +kernel
theorem dX2_readDigit_38 : decode cX2_readDigit 38 = .ok (.ireturn, 1) := by decide +kernel
theorem dX2_demand_0 : decode cX2_demand 0 = .ok (.aload_n 0, 1) := by decide +kernel
theorem dX2_demand_1 : decode cX2_demand 1 = .ok (.iload_n 1, 1) := by decide +kernel
theorem dX2_demand_2 : decode cX2_demand 2 = .ok (.invokevirtual 59, 3) := by decide +kernel
theorem dX2_demand_5 : decode cX2_demand 5 = .ok (.ifCond .ne 8, 3) := by decide +kernel
theorem dX2_demand_8 : decode cX2_demand 8 = .ok (.aload_n 0, 1) := by decide +kernel
theorem dX2_demand_9 : decode cX2_demand 9 = .ok (.iconst 1, 1) := by decide +kernel
theorem dX2_demand_10 : decode cX2_demand 10 = .ok (.putfield 22, 3) := by decide +kernel
theorem dX2_demand_13 : decode cX2_demand 13 = .ok (.return_, 1) := by decide +kernel
theorem dX2_readSign_0 : decode cX2_readSign 0 = .ok (.aload_n 0, 1) := by decide +kernel
theorem dX2_readSign_1 : decode cX2_readSign 1 = .ok (.getfield 22, 3) := by decide +kernel
theorem dX2_readSign_4 : decode cX2_readSign 4 = .ok (.ifCond .ne 27, 3) := by decide +kernel
theorem dX2_readSign_7 : decode cX2_readSign 7 = .ok (.aload_n 0, 1) := by decide +kernel
theorem dX2_readSign_8 : decode cX2_readSign 8 = .ok (.getfield 19, 3) := by decide +kernel
theorem dX2_readSign_11 : decode cX2_readSign 11 = .ok (.aload_n 0, 1) := by decide +kernel
theorem dX2_readSign_12 : decode cX2_readSign 12 = .ok (.getfield 15, 3) := by decide +kernel
theorem dX2_readSign_15 : decode cX2_readSign 15 = .ok (.if_icmp .ge 16, 3) := by decide +kernel
theorem dX2_readSign_18 : decode cX2_readSign 18 = .ok (.aload_n 0, 1) := by decide +kernel
theorem dX2_readSign_19 : decode cX2_readSign 19 = .ok (.getfield 11, 3) := by decide +kernel
theorem dX2_readSign_22 : decode cX2_readSign 22 = .ok (.aload_n 0, 1) := by decide +kernel
theorem dX2_readSign_23 : decode cX2_readSign 23 = .ok (.getfield 19, 3) := by decide +kernel
theorem dX2_readSign_26 : decode cX2_readSign 26 = .ok (.caload, 1) := by decide +kernel
theorem dX2_readSign_27 : decode cX2_readSign 27 = .ok (.iload_n 1, 1) := by decide +kernel
theorem dX2_readSign_28 : decode cX2_readSign 28 = .ok (.if_icmp .eq 5, 3) := by decide +kernel
theorem dX2_readSign_31 : decode cX2_readSign 31 = .ok (.iconst 0, 1) := by decide +kernel
theorem dX2_readSign_32 : decode cX2_readSign 32 = .ok (.ireturn, 1) := by decide +kernel
theorem dX2_readSign_33 : decode cX2_readSign 33 = .ok (.aload_n 0, 1) := by decide +kernel
theorem dX2_readSign_34 : decode cX2_readSign 34 = .ok (.dup, 1) := by decide +kernel
theorem dX2_readSign_35 : decode cX2_readSign 35 = .ok (.getfield 19, 3) := by decide +kernel
theorem dX2_readSign_38 : decode cX2_readSign 38 = .ok (.iconst 1, 1) := by decide +kernel
theorem dX2_readSign_39 : decode cX2_readSign 39 = .ok (.iadd, 1) := by decide +kernel
theorem dX2_readSign_40 : decode cX2_readSign 40 = .ok (.putfield 19, 3) := by decide +kernel
theorem dX2_readSign_43 : decode cX2_readSign 43 = .ok (.iconst 1, 1) := by decide +kernel
theorem dX2_readSign_44 : decode cX2_readSign 44 = .ok (.ireturn, 1) := by decide +kernel
theorem dX2_digitStands_0 : decode cX2_digitStands 0 = .ok (.aload_n 0, 1) := by decide +kernel
theorem dX2_digitStands_1 : decode cX2_digitStands 1 = .ok (.getfield 22, 3) := by decide +kernel
theorem dX2_digitStands_4 : decode cX2_digitStands 4 = .ok (.ifCond .ne 46, 3) := by decide +kernel
theorem dX2_digitStands_7 : decode cX2_digitStands 7 = .ok (.aload_n 0, 1) := by decide +kernel
theorem dX2_digitStands_8 : decode cX2_digitStands 8 = .ok (.getfield 19, 3) := by decide +kernel
theorem dX2_digitStands_11 : decode cX2_digitStands 11 = .ok (.aload_n 0, 1) := by decide +kernel
theorem dX2_digitStands_12 : decode cX2_digitStands 12 = .ok (.getfield 15, 3) := by decide +kernel
theorem dX2_digitStands_15 : decode cX2_digitStands 15 = .ok (.if_icmp .ge 35, 3) := by decide +kernel
theorem dX2_digitStands_18 : decode cX2_digitStands 18 = .ok (.aload_n 0, 1) := by decide +kernel
theorem dX2_digitStands_19 : decode cX2_digitStands 19 = .ok (.getfield 11, 3) := by decide +kernel
theorem dX2_digitStands_22 : decode cX2_digitStands 22 = .ok (.aload_n 0, 1) := by decide +kernel
theorem dX2_digitStands_23 : decode cX2_digitStands 23 = .ok (.getfield 19, 3) := by decide +kernel
theorem dX2_digitStands_26 : decode cX2_digitStands 26 = .ok (.caload, 1) := by decide +kernel
theorem dX2_digitStands_27 : decode cX2_digitStands 27 = .ok (.bipush 48, 2) := by decide +kernel
theorem dX2_digitStands_29 : decode cX2_digitStands 29 = .ok (.if_icmp .lt 21, 3) := by decide +kernel
theorem dX2_digitStands_32 : decode cX2_digitStands 32 = .ok (.aload_n 0, 1) := by decide +kernel
theorem dX2_digitStands_33 : decode cX2_digitStands 33 = .ok (.getfield 11, 3) := by decide +kernel
theorem dX2_digitStands_36 : decode cX2_digitStands 36 = .ok (.aload_n 0, 1) := by decide +kernel
theorem dX2_digitStands_37 : decode cX2_digitStands 37 = .ok (.getfield 19, 3) := by decide +kernel
theorem dX2_digitStands_40 : decode cX2_digitStands 40 = .ok (.caload, 1) := by decide +kernel
theorem dX2_digitStands_41 : decode cX2_digitStands 41 = .ok (.bipush 57, 2) := by decide +kernel
theorem dX2_digitStands_43 : decode cX2_digitStands 43 = .ok (.if_icmp .gt 7, 3) := by decide +kernel
theorem dX2_digitStands_46 : decode cX2_digitStands 46 = .ok (.iconst 1, 1) := by decide +kernel
theorem dX2_digitStands_47 : decode cX2_digitStands 47 = .ok (.goto 4, 3) := by decide +kernel
theorem dX2_digitStands_50 : decode cX2_digitStands 50 = .ok (.iconst 0, 1) := by decide +kernel
theorem dX2_digitStands_51 : decode cX2_digitStands 51 = .ok (.ireturn, 1) := by decide +kernel
theorem dX3_init_0 : decode cX3_init 0 = .ok (.aload_n 0, 1) := by decide +kernel
theorem dX3_init_1 : decode cX3_init 1 = .ok (.invokespecial 3, 3) := by decide +kernel
theorem dX3_init_4 : decode cX3_init 4 = .ok (.aload_n 0, 1) := by decide +kernel
theorem dX3_init_5 : decode cX3_init 5 = .ok (.iconst 4, 1) := by decide +kernel
theorem dX3_init_6 : decode cX3_init 6 = .ok (.putfield 9, 3) := by decide +kernel
theorem dX3_init_9 : decode cX3_init 9 = .ok (.aload_n 0, 1) := by decide +kernel
theorem dX3_init_10 : decode cX3_init 10 = .ok (.bipush 10, 2) := by decide +kernel
theorem dX3_init_12 : decode cX3_init 12 = .ok (.putfield 15, 3) := by decide +kernel
theorem dX3_init_15 : decode cX3_init 15 = .ok (.aload_n 0, 1) := by decide +kernel
theorem dX3_init_16 : decode cX3_init 16 = .ok (.iconst 4, 1) := by decide +kernel
theorem dX3_init_17 : decode cX3_init 17 = .ok (.putfield 18, 3) := by decide +kernel
theorem dX3_init_20 : decode cX3_init 20 = .ok (.aload_n 0, 1) := by decide +kernel
theorem dX3_init_21 : decode cX3_init 21 = .ok (.iconst (-1), 1) := by decide +kernel
theorem dX3_init_22 : decode cX3_init 22 = .ok (.putfield 21, 3) := by decide +kernel
theorem dX3_init_25 : decode cX3_init 25 = .ok (.aload_n 0, 1) := by decide +kernel
theorem dX3_init_26 : decode cX3_init 26 = .ok (.iconst 0, 1) := by decide +kernel
theorem dX3_init_27 : decode cX3_init 27 = .ok (.putfield 24, 3) := by decide +kernel
theorem dX3_init_30 : decode cX3_init 30 = .ok (.aload_n 0, 1) := by decide +kernel
theorem dX3_init_31 : decode cX3_init 31 = .ok (.iconst 0, 1) := by decide +kernel
theorem dX3_init_32 : decode cX3_init 32 = .ok (.putfield 28, 3) := by decide +kernel
theorem dX3_init_35 : decode cX3_init 35 = .ok (.aload_n 0, 1) := by decide +kernel
theorem dX3_init_36 : decode cX3_init 36 = .ok (.bipush (-6), 2) := by decide +kernel
theorem dX3_init_38 : decode cX3_init 38 = .ok (.putfield 31, 3) := by decide +kernel
theorem dX3_init_41 : decode cX3_init 41 = .ok (.aload_n 0, 1) := by decide +kernel
theorem dX3_init_42 : decode cX3_init 42 = .ok (.iconst 0, 1) := by decide +kernel
theorem dX3_init_43 : decode cX3_init 43 = .ok (.putfield 34, 3) := by decide +kernel
theorem dX3_init_46 : decode cX3_init 46 = .ok (.aload_n 0, 1) := by decide +kernel
theorem dX3_init_47 : decode cX3_init 47 = .ok (.iconst 0, 1) := by decide +kernel
theorem dX3_init_48 : decode cX3_init 48 = .ok (.putfield 37, 3) := by decide +kernel
theorem dX3_init_51 : decode cX3_init 51 = .ok (.aload_n 0, 1) := by decide +kernel
theorem dX3_init_52 : decode cX3_init 52 = .ok (.iconst 0, 1) := by decide +kernel
theorem dX3_init_53 : decode cX3_init 53 = .ok (.putfield 40, 3) := by decide +kernel
theorem dX3_init_56 : decode cX3_init 56 = .ok (.aload_n 0, 1) := by decide +kernel
theorem dX3_init_57 : decode cX3_init 57 = .ok (.iconst 0, 1) := by decide +kernel
theorem dX3_init_58 : decode cX3_init 58 = .ok (.putfield 43, 3) := by decide +kernel
theorem dX3_init_61 : decode cX3_init 61 = .ok (.aload_n 0, 1) := by decide +kernel
theorem dX3_init_62 : decode cX3_init 62 = .ok (.bipush (-6), 2) := by decide +kernel
theorem dX3_init_64 : decode cX3_init 64 = .ok (.putfield 46, 3) := by decide +kernel
theorem dX3_init_67 : decode cX3_init 67 = .ok (.aload_n 0, 1) := by decide +kernel
theorem dX3_init_68 : decode cX3_init 68 = .ok (.iconst 0, 1) := by decide +kernel
theorem dX3_init_69 : decode cX3_init 69 = .ok (.putfield 49, 3) := by decide +kernel
theorem dX3_init_72 : decode cX3_init 72 = .ok (.return_, 1) := by decide +kernel
theorem dX3_copyFrom_0 : decode cX3_copyFrom 0 = .ok (.aload_n 0, 1) := by decide +kernel
theorem dX3_copyFrom_1 : decode cX3_copyFrom 1 = .ok (.aload_n 1, 1) := by decide +kernel
theorem dX3_copyFrom_2 : decode cX3_copyFrom 2 = .ok (.getfield 9, 3) := by decide +kernel
theorem dX3_copyFrom_5 : decode cX3_copyFrom 5 = .ok (.putfield 9, 3) := by decide +kernel
theorem dX3_copyFrom_8 : decode cX3_copyFrom 8 = .ok (.aload_n 0, 1) := by decide +kernel
theorem dX3_copyFrom_9 : decode cX3_copyFrom 9 = .ok (.aload_n 1, 1) := by decide +kernel
theorem dX3_copyFrom_10 : decode cX3_copyFrom 10 = .ok (.getfield 15, 3) := by decide +kernel
theorem dX3_copyFrom_13 : decode cX3_copyFrom 13 = .ok (.putfield 15, 3) := by decide +kernel
theorem dX3_copyFrom_16 : decode cX3_copyFrom 16 = .ok (.aload_n 0, 1) := by decide +kernel
theorem dX3_copyFrom_17 : decode cX3_copyFrom 17 = .ok (.aload_n 1, 1) := by decide +kernel
theorem dX3_copyFrom_18 : decode cX3_copyFrom 18 = .ok (.getfield 18, 3) := by decide +kernel
theorem dX3_copyFrom_21 : decode cX3_copyFrom 21 = .ok (.putfield 18, 3) := by decide +kernel
theorem dX3_copyFrom_24 : decode cX3_copyFrom 24 = .ok (.aload_n 0, 1) := by decide +kernel
theorem dX3_copyFrom_25 : decode cX3_copyFrom 25 = .ok (.aload_n 1, 1) := by decide +kernel
theorem dX3_copyFrom_26 : decode cX3_copyFrom 26 = .ok (.getfield 21, 3) := by decide +kernel
theorem dX3_copyFrom_29 : decode cX3_copyFrom 29 = .ok (.putfield 21, 3) := by decide +kernel
theorem dX3_copyFrom_32 : decode cX3_copyFrom 32 = .ok (.aload_n 0, 1) := by decide +kernel
theorem dX3_copyFrom_33 : decode cX3_copyFrom 33 = .ok (.aload_n 1, 1) := by decide +kernel
theorem dX3_copyFrom_34 : decode cX3_copyFrom 34 = .ok (.getfield 24, 3) := by decide +kernel
theorem dX3_copyFrom_37 : decode cX3_copyFrom 37 = .ok (.putfield 24, 3) := by decide +kernel
theorem dX3_copyFrom_40 : decode cX3_copyFrom 40 = .ok (.aload_n 0, 1) := by decide +kernel
theorem dX3_copyFrom_41 : decode cX3_copyFrom 41 = .ok (.aload_n 1, 1) := by decide +kernel
theorem dX3_copyFrom_42 : decode cX3_copyFrom 42 = .ok (.getfield 28, 3) := by decide +kernel
theorem dX3_copyFrom_45 : decode cX3_copyFrom 45 = .ok (.putfield 28, 3) := by decide +kernel
theorem dX3_copyFrom_48 : decode cX3_copyFrom 48 = .ok (.aload_n 0, 1) := by decide +kernel
theorem dX3_copyFrom_49 : decode cX3_copyFrom 49 = .ok (.aload_n 1, 1) := by decide +kernel
theorem dX3_copyFrom_50 : decode cX3_copyFrom 50 = .ok (.getfield 31, 3) := by decide +kernel
theorem dX3_copyFrom_53 : decode cX3_copyFrom 53 = .ok (.putfield 31, 3) := by decide +kernel
theorem dX3_copyFrom_56 : decode cX3_copyFrom 56 = .ok (.aload_n 0, 1) := by decide +kernel
theorem dX3_copyFrom_57 : decode cX3_copyFrom 57 = .ok (.aload_n 1, 1) := by decide +kernel
theorem dX3_copyFrom_58 : decode cX3_copyFrom 58 = .ok (.getfield 34, 3) := by decide +kernel
theorem dX3_copyFrom_61 : decode cX3_copyFrom 61 = .ok (.putfield 34, 3) := by decide +kernel
theorem dX3_copyFrom_64 : decode cX3_copyFrom 64 = .ok (.aload_n 0, 1) := by decide +kernel
theorem dX3_copyFrom_65 : decode cX3_copyFrom 65 = .ok (.aload_n 1, 1) := by decide +kernel
theorem dX3_copyFrom_66 : decode cX3_copyFrom 66 = .ok (.getfield 37, 3) := by decide +kernel
theorem dX3_copyFrom_69 : decode cX3_copyFrom 69 = .ok (.putfield 37, 3) := by decide +kernel
theorem dX3_copyFrom_72 : decode cX3_copyFrom 72 = .ok (.aload_n 0, 1) := by decide +kernel
theorem dX3_copyFrom_73 : decode cX3_copyFrom 73 = .ok (.aload_n 1, 1) := by decide +kernel
theorem dX3_copyFrom_74 : decode cX3_copyFrom 74 = .ok (.getfield 40, 3) := by decide +kernel
theorem dX3_copyFrom_77 : decode cX3_copyFrom 77 = .ok (.putfield 40, 3) := by decide +kernel
theorem dX3_copyFrom_80 : decode cX3_copyFrom 80 = .ok (.aload_n 0, 1) := by decide +kernel
theorem dX3_copyFrom_81 : decode cX3_copyFrom 81 = .ok (.aload_n 1, 1) := by decide +kernel
theorem dX3_copyFrom_82 : decode cX3_copyFrom 82 = .ok (.getfield 43, 3) := by decide +kernel
theorem dX3_copyFrom_85 : decode cX3_copyFrom 85 = .ok (.putfield 43, 3) := by decide +kernel
theorem dX3_copyFrom_88 : decode cX3_copyFrom 88 = .ok (.aload_n 0, 1) := by decide +kernel
theorem dX3_copyFrom_89 : decode cX3_copyFrom 89 = .ok (.aload_n 1, 1) := by decide +kernel
theorem dX3_copyFrom_90 : decode cX3_copyFrom 90 = .ok (.getfield 46, 3) := by decide +kernel
theorem dX3_copyFrom_93 : decode cX3_copyFrom 93 = .ok (.putfield 46, 3) := by decide +kernel
theorem dX3_copyFrom_96 : decode cX3_copyFrom 96 = .ok (.aload_n 0, 1) := by decide +kernel
theorem dX3_copyFrom_97 : decode cX3_copyFrom 97 = .ok (.aload_n 1, 1) := by decide +kernel
theorem dX3_copyFrom_98 : decode cX3_copyFrom 98 = .ok (.getfield 49, 3) := by decide +kernel
theorem dX3_copyFrom_101 : decode cX3_copyFrom 101 = .ok (.putfield 49, 3) := by decide +kernel
theorem dX3_copyFrom_104 : decode cX3_copyFrom 104 = .ok (.return_, 1) := by decide +kernel
theorem dX3_emptyLike_0 : decode cX3_emptyLike 0 = .ok (.aload_n 0, 1) := by decide +kernel
theorem dX3_emptyLike_1 : decode cX3_emptyLike 1 = .ok (.aload_n 1, 1) := by decide +kernel
theorem dX3_emptyLike_2 : decode cX3_emptyLike 2 = .ok (.getfield 9, 3) := by decide +kernel
theorem dX3_emptyLike_5 : decode cX3_emptyLike 5 = .ok (.putfield 9, 3) := by decide +kernel
theorem dX3_emptyLike_8 : decode cX3_emptyLike 8 = .ok (.aload_n 0, 1) := by decide +kernel
theorem dX3_emptyLike_9 : decode cX3_emptyLike 9 = .ok (.aload_n 1, 1) := by decide +kernel
theorem dX3_emptyLike_10 : decode cX3_emptyLike 10 = .ok (.getfield 15, 3) := by decide +kernel
theorem dX3_emptyLike_13 : decode cX3_emptyLike 13 = .ok (.putfield 15, 3) := by decide +kernel
theorem dX3_emptyLike_16 : decode cX3_emptyLike 16 = .ok (.aload_n 0, 1) := by decide +kernel
theorem dX3_emptyLike_17 : decode cX3_emptyLike 17 = .ok (.aload_n 1, 1) := by decide +kernel
theorem dX3_emptyLike_18 : decode cX3_emptyLike 18 = .ok (.getfield 9, 3) := by decide +kernel
theorem dX3_emptyLike_21 : decode cX3_emptyLike 21 = .ok (.putfield 18, 3) := by decide +kernel
theorem dX3_emptyLike_24 : decode cX3_emptyLike 24 = .ok (.aload_n 0, 1) := by decide +kernel
theorem dX3_emptyLike_25 : decode cX3_emptyLike 25 = .ok (.iconst (-1), 1) := by decide +kernel
theorem dX3_emptyLike_26 : decode cX3_emptyLike 26 = .ok (.putfield 21, 3) := by decide +kernel
theorem dX3_emptyLike_29 : decode cX3_emptyLike 29 = .ok (.aload_n 0, 1) := by decide +kernel
theorem dX3_emptyLike_30 : decode cX3_emptyLike 30 = .ok (.iconst 0, 1) := by decide +kernel
theorem dX3_emptyLike_31 : decode cX3_emptyLike 31 = .ok (.putfield 24, 3) := by decide +kernel
theorem dX3_emptyLike_34 : decode cX3_emptyLike 34 = .ok (.aload_n 0, 1) := by decide +kernel
theorem dX3_emptyLike_35 : decode cX3_emptyLike 35 = .ok (.iconst 0, 1) := by decide +kernel
theorem dX3_emptyLike_36 : decode cX3_emptyLike 36 = .ok (.putfield 28, 3) := by decide +kernel
theorem dX3_emptyLike_39 : decode cX3_emptyLike 39 = .ok (.aload_n 0, 1) := by decide +kernel
theorem dX3_emptyLike_40 : decode cX3_emptyLike 40 = .ok (.bipush (-6), 2) := by decide +kernel
theorem dX3_emptyLike_42 : decode cX3_emptyLike 42 = .ok (.putfield 31, 3) := by decide +kernel
theorem dX3_emptyLike_45 : decode cX3_emptyLike 45 = .ok (.aload_n 0, 1) := by decide +kernel
theorem dX3_emptyLike_46 : decode cX3_emptyLike 46 = .ok (.iconst 0, 1) := by decide +kernel
theorem dX3_emptyLike_47 : decode cX3_emptyLike 47 = .ok (.putfield 34, 3) := by decide +kernel
theorem dX3_emptyLike_50 : decode cX3_emptyLike 50 = .ok (.aload_n 0, 1) := by decide +kernel
theorem dX3_emptyLike_51 : decode cX3_emptyLike 51 = .ok (.iconst 0, 1) := by decide +kernel
theorem dX3_emptyLike_52 : decode cX3_emptyLike 52 = .ok (.putfield 37, 3) := by decide +kernel
theorem dX3_emptyLike_55 : decode cX3_emptyLike 55 = .ok (.aload_n 0, 1) := by decide +kernel
theorem dX3_emptyLike_56 : decode cX3_emptyLike 56 = .ok (.iconst 0, 1) := by decide +kernel
theorem dX3_emptyLike_57 : decode cX3_emptyLike 57 = .ok (.putfield 40, 3) := by decide +kernel
theorem dX3_emptyLike_60 : decode cX3_emptyLike 60 = .ok (.aload_n 0, 1) := by decide +kernel
theorem dX3_emptyLike_61 : decode cX3_emptyLike 61 = .ok (.iconst 0, 1) := by decide +kernel
theorem dX3_emptyLike_62 : decode cX3_emptyLike 62 = .ok (.putfield 43, 3) := by decide +kernel
theorem dX3_emptyLike_65 : decode cX3_emptyLike 65 = .ok (.aload_n 0, 1) := by decide +kernel
theorem dX3_emptyLike_66 : decode cX3_emptyLike 66 = .ok (.bipush (-6), 2) := by decide +kernel
theorem dX3_emptyLike_68 : decode cX3_emptyLike 68 = .ok (.putfield 46, 3) := by decide +kernel
theorem dX3_emptyLike_71 : decode cX3_emptyLike 71 = .ok (.aload_n 0, 1) := by decide +kernel
theorem dX3_emptyLike_72 : decode cX3_emptyLike 72 = .ok (.iconst 0, 1) := by decide +kernel
theorem dX3_emptyLike_73 : decode cX3_emptyLike 73 = .ok (.putfield 49, 3) := by decide +kernel
theorem dX3_emptyLike_76 : decode cX3_emptyLike 76 = .ok (.return_, 1) := by decide +kernel
theorem dX3_isCalled_0 : decode cX3_isCalled 0 = .ok (.aload_n 0, 1) := by decide +kernel
theorem dX3_isCalled_1 : decode cX3_isCalled 1 = .ok (.getfield 21, 3) := by decide +kernel
theorem dX3_isCalled_4 : decode cX3_isCalled 4 = .ok (.iconst (-1), 1) := by decide +kernel
theorem dX3_isCalled_5 : decode cX3_isCalled 5 = .ok (.if_icmp .eq 7, 3) := by decide +kernel
theorem dX3_isCalled_8 : decode cX3_isCalled 8 = .ok (.iconst 1, 1) := by decide +kernel
theorem dX3_isCalled_9 : decode cX3_isCalled 9 = .ok (.goto 4, 3) := by decide +kernel
theorem dX3_isCalled_12 : decode cX3_isCalled 12 = .ok (.iconst 0, 1) := by decide +kernel
theorem dX3_isCalled_13 : decode cX3_isCalled 13 = .ok (.ireturn, 1) := by decide +kernel
theorem dX3_noteTaken_0 : decode cX3_noteTaken 0 = .ok (.aload_n 0, 1) := by decide +kernel
theorem dX3_noteTaken_1 : decode cX3_noteTaken 1 = .ok (.dup, 1) := by decide +kernel
theorem dX3_noteTaken_2 : decode cX3_noteTaken 2 = .ok (.getfield 28, 3) := by decide +kernel
theorem dX3_noteTaken_5 : decode cX3_noteTaken 5 = .ok (.iconst 1, 1) := by decide +kernel
theorem dX3_noteTaken_6 : decode cX3_noteTaken 6 = .ok (.isub, 1) := by decide +kernel
theorem dX3_noteTaken_7 : decode cX3_noteTaken 7 = .ok (.putfield 28, 3) := by decide +kernel
theorem dX3_noteTaken_10 : decode cX3_noteTaken 10 = .ok (.aload_n 0, 1) := by decide +kernel
theorem dX3_noteTaken_11 : decode cX3_noteTaken 11 = .ok (.dup, 1) := by decide +kernel
theorem dX3_noteTaken_12 : decode cX3_noteTaken 12 = .ok (.getfield 37, 3) := by decide +kernel
theorem dX3_noteTaken_15 : decode cX3_noteTaken 15 = .ok (.iconst 1, 1) := by decide +kernel
theorem dX3_noteTaken_16 : decode cX3_noteTaken 16 = .ok (.iadd, 1) := by decide +kernel
theorem dX3_noteTaken_17 : decode cX3_noteTaken 17 = .ok (.putfield 37, 3) := by decide +kernel
theorem dX3_noteTaken_20 : decode cX3_noteTaken 20 = .ok (.aload_n 0, 1) := by decide +kernel
theorem dX3_noteTaken_21 : decode cX3_noteTaken 21 = .ok (.dup, 1) := by decide +kernel
theorem dX3_noteTaken_22 : decode cX3_noteTaken 22 = .ok (.getfield 49, 3) := by decide +kernel
theorem dX3_noteTaken_25 : decode cX3_noteTaken 25 = .ok (.iconst 1, 1) := by decide +kernel
theorem dX3_noteTaken_26 : decode cX3_noteTaken 26 = .ok (.iadd, 1) := by decide +kernel
theorem dX3_noteTaken_27 : decode cX3_noteTaken 27 = .ok (.putfield 49, 3) := by decide +kernel
theorem dX3_noteTaken_30 : decode cX3_noteTaken 30 = .ok (.aload_n 0, 1) := by decide +kernel
theorem dX3_noteTaken_31 : decode cX3_noteTaken 31 = .ok (.dup, 1) := by decide +kernel
theorem dX3_noteTaken_32 : decode cX3_noteTaken 32 = .ok (.getfield 43, 3) := by decide +kernel
theorem dX3_noteTaken_35 : decode cX3_noteTaken 35 = .ok (.iload_n 1, 1) := by decide +kernel
theorem dX3_noteTaken_36 : decode cX3_noteTaken 36 = .ok (.iadd, 1) := by decide +kernel
theorem dX3_noteTaken_37 : decode cX3_noteTaken 37 = .ok (.putfield 43, 3) := by decide +kernel
theorem dX3_noteTaken_40 : decode cX3_noteTaken 40 = .ok (.aload_n 0, 1) := by decide +kernel
theorem dX3_noteTaken_41 : decode cX3_noteTaken 41 = .ok (.iload_n 1, 1) := by decide +kernel
theorem dX3_noteTaken_42 : decode cX3_noteTaken 42 = .ok (.aload_n 0, 1) := by decide +kernel
theorem dX3_noteTaken_43 : decode cX3_noteTaken 43 = .ok (.getfield 46, 3) := by decide +kernel
theorem dX3_noteTaken_46 : decode cX3_noteTaken 46 = .ok (.if_icmp .le 7, 3) := by decide +kernel
theorem dX3_noteTaken_49 : decode cX3_noteTaken 49 = .ok (.iload_n 1, 1) := by decide +kernel
theorem dX3_noteTaken_50 : decode cX3_noteTaken 50 = .ok (.goto 7, 3) := by decide +kernel
theorem dX3_noteTaken_53 : decode cX3_noteTaken 53 = .ok (.aload_n 0, 1) := by decide +kernel
theorem dX3_noteTaken_54 : decode cX3_noteTaken 54 = .ok (.getfield 46, 3) := by decide +kernel
theorem dX3_noteTaken_57 : decode cX3_noteTaken 57 = .ok (.putfield 46, 3) := by decide +kernel
theorem dX3_noteTaken_60 : decode cX3_noteTaken 60 = .ok (.return_, 1) := by decide +kernel
theorem dX3_becomeIdle_0 : decode cX3_becomeIdle 0 = .ok (.iload_n 1, 1) := by decide +kernel
theorem dX3_becomeIdle_1 : decode cX3_becomeIdle 1 = .ok (.ifCond .eq 34, 3) := by decide +kernel
theorem dX3_becomeIdle_4 : decode cX3_becomeIdle 4 = .ok (.aload_n 0, 1) := by decide +kernel
theorem dX3_becomeIdle_5 : decode cX3_becomeIdle 5 = .ok (.getfield 49, 3) := by decide +kernel
theorem dX3_becomeIdle_8 : decode cX3_becomeIdle 8 = .ok (.iconst 2, 1) := by decide +kernel
theorem dX3_becomeIdle_9 : decode cX3_becomeIdle 9 = .ok (.aload_n 0, 1) := by decide +kernel
theorem dX3_becomeIdle_10 : decode cX3_becomeIdle 10 = .ok (.getfield 18, 3) := by decide +kernel
theorem dX3_becomeIdle_13 : decode cX3_becomeIdle 13 = .ok (.imul, 1) := by decide +kernel
theorem dX3_becomeIdle_14 : decode cX3_becomeIdle 14 = .ok (.if_icmp .le 21, 3) := by decide +kernel
theorem dX3_becomeIdle_17 : decode cX3_becomeIdle 17 = .ok (.aload_n 0, 1) := by decide +kernel
theorem dX3_becomeIdle_18 : decode cX3_becomeIdle 18 = .ok (.iconst 2, 1) := by decide +kernel
theorem dX3_becomeIdle_19 : decode cX3_becomeIdle 19 = .ok (.aload_n 0, 1) := by decide +kernel
theorem dX3_becomeIdle_20 : decode cX3_becomeIdle 20 = .ok (.getfield 18, 3) := by decide +kernel
theorem dX3_becomeIdle_23 : decode cX3_becomeIdle 23 = .ok (.imul, 1) := by decide +kernel
theorem dX3_becomeIdle_24 : decode cX3_becomeIdle 24 = .ok (.bipush 32, 2) := by decide +kernel
theorem dX3_becomeIdle_26 : decode cX3_becomeIdle 26 = .ok (.invokestatic 52, 3) := by decide +kernel
theorem dX3_becomeIdle_29 : decode cX3_becomeIdle 29 = .ok (.putfield 18, 3) := by decide +kernel
theorem dX3_becomeIdle_32 : decode cX3_becomeIdle 32 = .ok (.goto 34, 3) := by decide +kernel
theorem dX3_becomeIdle_35 : decode cX3_becomeIdle 35 = .ok (.iload_n 1, 1) := by decide +kernel
theorem dX3_becomeIdle_36 : decode cX3_becomeIdle 36 = .ok (.ifCond .eq 30, 3) := by decide +kernel
theorem dX3_becomeIdle_39 : decode cX3_becomeIdle 39 = .ok (.iconst 2, 1) := by decide +kernel
theorem dX3_becomeIdle_40 : decode cX3_becomeIdle 40 = .ok (.aload_n 0, 1) := by decide +kernel
theorem dX3_becomeIdle_41 : decode cX3_becomeIdle 41 = .ok (.getfield 49, 3) := by decide +kernel
theorem dX3_becomeIdle_44 : decode cX3_becomeIdle 44 = .ok (.imul, 1) := by decide +kernel
theorem dX3_becomeIdle_45 : decode cX3_becomeIdle 45 = .ok (.aload_n 0, 1) := by decide +kernel
theorem dX3_becomeIdle_46 : decode cX3_becomeIdle 46 = .ok (.getfield 18, 3) := by decide +kernel
theorem dX3_becomeIdle_49 : decode cX3_becomeIdle 49 = .ok (.if_icmp .ge 17, 3) := by decide +kernel
theorem dX3_becomeIdle_52 : decode cX3_becomeIdle 52 = .ok (.aload_n 0, 1) := by decide +kernel
theorem dX3_becomeIdle_53 : decode cX3_becomeIdle 53 = .ok (.aload_n 0, 1) := by decide +kernel
theorem dX3_becomeIdle_54 : decode cX3_becomeIdle 54 = .ok (.getfield 18, 3) := by decide +kernel
theorem dX3_becomeIdle_57 : decode cX3_becomeIdle 57 = .ok (.iconst 2, 1) := by decide +kernel
theorem dX3_becomeIdle_58 : decode cX3_becomeIdle 58 = .ok (.idiv, 1) := by decide +kernel
theorem dX3_becomeIdle_59 : decode cX3_becomeIdle 59 = .ok (.iconst 1, 1) := by decide +kernel
theorem dX3_becomeIdle_60 : decode cX3_becomeIdle 60 = .ok (.invokestatic 58, 3) := by decide +kernel
theorem dX3_becomeIdle_63 : decode cX3_becomeIdle 63 = .ok (.putfield 18, 3) := by decide +kernel
theorem dX3_becomeIdle_66 : decode cX3_becomeIdle 66 = .ok (.aload_n 0, 1) := by decide +kernel
theorem dX3_becomeIdle_67 : decode cX3_becomeIdle 67 = .ok (.iconst 0, 1) := by decide +kernel
theorem dX3_becomeIdle_68 : decode cX3_becomeIdle 68 = .ok (.putfield 49, 3) := by decide +kernel
theorem dX3_becomeIdle_71 : decode cX3_becomeIdle 71 = .ok (.return_, 1) := by decide +kernel
theorem dX3_fact_0 : decode cX3_fact 0 = .ok (.iload_n 1, 1) := by decide +kernel
theorem dX3_fact_1 : decode cX3_fact 1 = .ok (.tableswitch 148 0 12 #[67, 72, 77, 82, 87, 100, 113, 118, 123, 128, 133, 138, 143], 67) := by decide +kernel
theorem dX3_fact_68 : decode cX3_fact 68 = .ok (.aload_n 0, 1) := by decide +kernel
theorem dX3_fact_69 : decode cX3_fact 69 = .ok (.getfield 9, 3) := by decide +kernel
theorem dX3_fact_72 : decode cX3_fact 72 = .ok (.ireturn, 1) := by decide +kernel
theorem dX3_fact_73 : decode cX3_fact 73 = .ok (.aload_n 0, 1) := by decide +kernel
theorem dX3_fact_74 : decode cX3_fact 74 = .ok (.getfield 15, 3) := by decide +kernel
theorem dX3_fact_77 : decode cX3_fact 77 = .ok (.ireturn, 1) := by decide +kernel
theorem dX3_fact_78 : decode cX3_fact 78 = .ok (.aload_n 0, 1) := by decide +kernel
theorem dX3_fact_79 : decode cX3_fact 79 = .ok (.getfield 18, 3) := by decide +kernel
theorem dX3_fact_82 : decode cX3_fact 82 = .ok (.ireturn, 1) := by decide +kernel
theorem dX3_fact_83 : decode cX3_fact 83 = .ok (.aload_n 0, 1) := by decide +kernel
theorem dX3_fact_84 : decode cX3_fact 84 = .ok (.getfield 28, 3) := by decide +kernel
theorem dX3_fact_87 : decode cX3_fact 87 = .ok (.ireturn, 1) := by decide +kernel
theorem dX3_fact_88 : decode cX3_fact 88 = .ok (.aload_n 0, 1) := by decide +kernel
theorem dX3_fact_89 : decode cX3_fact 89 = .ok (.invokevirtual 61, 3) := by decide +kernel
theorem dX3_fact_92 : decode cX3_fact 92 = .ok (.ifCond .eq 7, 3) := by decide +kernel
theorem dX3_fact_95 : decode cX3_fact 95 = .ok (.iconst 1, 1) := by decide +kernel
theorem dX3_fact_96 : decode cX3_fact 96 = .ok (.goto 4, 3) := by decide +kernel
theorem dX3_fact_99 : decode cX3_fact 99 = .ok (.iconst 0, 1) := by decide +kernel
theorem dX3_fact_100 : decode cX3_fact 100 = .ok (.ireturn, 1) := by decide +kernel
theorem dX3_fact_101 : decode cX3_fact 101 = .ok (.aload_n 0, 1) := by decide +kernel
theorem dX3_fact_102 : decode cX3_fact 102 = .ok (.getfield 24, 3) := by decide +kernel
theorem dX3_fact_105 : decode cX3_fact 105 = .ok (.ifCond .eq 7, 3) := by decide +kernel
theorem dX3_fact_108 : decode cX3_fact 108 = .ok (.iconst 1, 1) := by decide +kernel
theorem dX3_fact_109 : decode cX3_fact 109 = .ok (.goto 4, 3) := by decide +kernel
theorem dX3_fact_112 : decode cX3_fact 112 = .ok (.iconst 0, 1) := by decide +kernel
theorem dX3_fact_113 : decode cX3_fact 113 = .ok (.ireturn, 1) := by decide +kernel
theorem dX3_fact_114 : decode cX3_fact 114 = .ok (.aload_n 0, 1) := by decide +kernel
theorem dX3_fact_115 : decode cX3_fact 115 = .ok (.getfield 34, 3) := by decide +kernel
theorem dX3_fact_118 : decode cX3_fact 118 = .ok (.ireturn, 1) := by decide +kernel
theorem dX3_fact_119 : decode cX3_fact 119 = .ok (.aload_n 0, 1) := by decide +kernel
theorem dX3_fact_120 : decode cX3_fact 120 = .ok (.getfield 37, 3) := by decide +kernel
theorem dX3_fact_123 : decode cX3_fact 123 = .ok (.ireturn, 1) := by decide +kernel
theorem dX3_fact_124 : decode cX3_fact 124 = .ok (.aload_n 0, 1) := by decide +kernel
theorem dX3_fact_125 : decode cX3_fact 125 = .ok (.getfield 40, 3) := by decide +kernel
theorem dX3_fact_128 : decode cX3_fact 128 = .ok (.ireturn, 1) := by decide +kernel
theorem dX3_fact_129 : decode cX3_fact 129 = .ok (.aload_n 0, 1) := by decide +kernel
theorem dX3_fact_130 : decode cX3_fact 130 = .ok (.getfield 43, 3) := by decide +kernel
theorem dX3_fact_133 : decode cX3_fact 133 = .ok (.ireturn, 1) := by decide +kernel
theorem dX3_fact_134 : decode cX3_fact 134 = .ok (.aload_n 0, 1) := by decide +kernel
theorem dX3_fact_135 : decode cX3_fact 135 = .ok (.getfield 46, 3) := by decide +kernel
theorem dX3_fact_138 : decode cX3_fact 138 = .ok (.ireturn, 1) := by decide +kernel
theorem dX3_fact_139 : decode cX3_fact 139 = .ok (.aload_n 0, 1) := by decide +kernel
theorem dX3_fact_140 : decode cX3_fact 140 = .ok (.getfield 49, 3) := by decide +kernel
theorem dX3_fact_143 : decode cX3_fact 143 = .ok (.ireturn, 1) := by decide +kernel
theorem dX3_fact_144 : decode cX3_fact 144 = .ok (.aload_n 0, 1) := by decide +kernel
theorem dX3_fact_145 : decode cX3_fact 145 = .ok (.getfield 31, 3) := by decide +kernel
theorem dX3_fact_148 : decode cX3_fact 148 = .ok (.ireturn, 1) := by decide +kernel
theorem dX3_fact_149 : decode cX3_fact 149 = .ok (.bipush (-2), 2) := by decide +kernel
theorem dX3_fact_151 : decode cX3_fact 151 = .ok (.ireturn, 1) := by decide +kernel
theorem dX4_init_0 : decode cX4_init 0 = .ok (.aload_n 0, 1) := by decide +kernel
theorem dX4_init_1 : decode cX4_init 1 = .ok (.invokespecial 1, 3) := by decide +kernel
theorem dX4_init_4 : decode cX4_init 4 = .ok (.aload_n 0, 1) := by decide +kernel
theorem dX4_init_5 : decode cX4_init 5 = .ok (.new 7, 3) := by decide +kernel
theorem dX4_init_8 : decode cX4_init 8 = .ok (.dup, 1) := by decide +kernel
theorem dX4_init_9 : decode cX4_init 9 = .ok (.invokespecial 9, 3) := by decide +kernel
theorem dX4_init_12 : decode cX4_init 12 = .ok (.putfield 10, 3) := by decide +kernel
theorem dX4_init_15 : decode cX4_init 15 = .ok (.aload_n 0, 1) := by decide +kernel
theorem dX4_init_16 : decode cX4_init 16 = .ok (.new 7, 3) := by decide +kernel
theorem dX4_init_19 : decode cX4_init 19 = .ok (.dup, 1) := by decide +kernel
theorem dX4_init_20 : decode cX4_init 20 = .ok (.invokespecial 9, 3) := by decide +kernel
theorem dX4_init_23 : decode cX4_init 23 = .ok (.putfield 16, 3) := by decide +kernel
theorem dX4_init_26 : decode cX4_init 26 = .ok (.aload_n 0, 1) := by decide +kernel
theorem dX4_init_27 : decode cX4_init 27 = .ok (.iconst 2, 1) := by decide +kernel
theorem dX4_init_28 : decode cX4_init 28 = .ok (.anewarray 7, 3) := by decide +kernel
theorem dX4_init_31 : decode cX4_init 31 = .ok (.putfield 19, 3) := by decide +kernel
theorem dX4_init_34 : decode cX4_init 34 = .ok (.aload_n 0, 1) := by decide +kernel
theorem dX4_init_35 : decode cX4_init 35 = .ok (.iconst 2, 1) := by decide +kernel
theorem dX4_init_36 : decode cX4_init 36 = .ok (.newarray .boolean, 2) := by decide +kernel
theorem dX4_init_38 : decode cX4_init 38 = .ok (.putfield 23, 3) := by decide +kernel
theorem dX4_init_41 : decode cX4_init 41 = .ok (.aload_n 0, 1) := by decide +kernel
theorem dX4_init_42 : decode cX4_init 42 = .ok (.new 27, 3) := by decide +kernel
theorem dX4_init_45 : decode cX4_init 45 = .ok (.dup, 1) := by decide +kernel
theorem dX4_init_46 : decode cX4_init 46 = .ok (.invokespecial 29, 3) := by decide +kernel
theorem dX4_init_49 : decode cX4_init 49 = .ok (.putfield 30, 3) := by decide +kernel
theorem dX4_init_52 : decode cX4_init 52 = .ok (.aload_n 0, 1) := by decide +kernel
theorem dX4_init_53 : decode cX4_init 53 = .ok (.new 34, 3) := by decide +kernel
theorem dX4_init_56 : decode cX4_init 56 = .ok (.dup, 1) := by decide +kernel
theorem dX4_init_57 : decode cX4_init 57 = .ok (.invokespecial 36, 3) := by decide +kernel
theorem dX4_init_60 : decode cX4_init 60 = .ok (.putfield 37, 3) := by decide +kernel
theorem dX4_init_63 : decode cX4_init 63 = .ok (.iconst 0, 1) := by decide +kernel
theorem dX4_init_64 : decode cX4_init 64 = .ok (.istore_n 1, 1) := by decide +kernel
theorem dX4_init_65 : decode cX4_init 65 = .ok (.iload_n 1, 1) := by decide +kernel
theorem dX4_init_66 : decode cX4_init 66 = .ok (.iconst 2, 1) := by decide +kernel
theorem dX4_init_67 : decode cX4_init 67 = .ok (.if_icmp .ge 22, 3) := by decide +kernel
theorem dX4_init_70 : decode cX4_init 70 = .ok (.aload_n 0, 1) := by decide +kernel
theorem dX4_init_71 : decode cX4_init 71 = .ok (.getfield 19, 3) := by decide +kernel
theorem dX4_init_74 : decode cX4_init 74 = .ok (.iload_n 1, 1) := by decide +kernel
theorem dX4_init_75 : decode cX4_init 75 = .ok (.new 7, 3) := by decide +kernel
theorem dX4_init_78 : decode cX4_init 78 = .ok (.dup, 1) := by decide +kernel
theorem dX4_init_79 : decode cX4_init 79 = .ok (.invokespecial 9, 3) := by decide +kernel
theorem dX4_init_82 : decode cX4_init 82 = .ok (.aastore, 1) := by decide +kernel
theorem dX4_init_83 : decode cX4_init 83 = .ok (.iinc 1 1, 3) := by decide +kernel
theorem dX4_init_86 : decode cX4_init 86 = .ok (.goto (-21), 3) := by decide +kernel
theorem dX4_init_89 : decode cX4_init 89 = .ok (.return_, 1) := by decide +kernel
theorem dX4_set_0 : decode cX4_set 0 = .ok (.aload_n 0, 1) := by decide +kernel
theorem dX4_set_1 : decode cX4_set 1 = .ok (.getfield 30, 3) := by decide +kernel
theorem dX4_set_4 : decode cX4_set 4 = .ok (.aload_n 0, 1) := by decide +kernel
theorem dX4_set_5 : decode cX4_set 5 = .ok (.getfield 10, 3) := by decide +kernel
theorem dX4_set_8 : decode cX4_set 8 = .ok (.invokevirtual 41, 3) := by decide +kernel
theorem dX4_set_11 : decode cX4_set 11 = .ok (.aload_n 0, 1) := by decide +kernel
theorem dX4_set_12 : decode cX4_set 12 = .ok (.getfield 30, 3) := by decide +kernel
theorem dX4_set_15 : decode cX4_set 15 = .ok (.aload_n 0, 1) := by decide +kernel
theorem dX4_set_16 : decode cX4_set 16 = .ok (.getfield 10, 3) := by decide +kernel
theorem dX4_set_19 : decode cX4_set 19 = .ok (.iload_n 1, 1) := by decide +kernel
theorem dX4_set_20 : decode cX4_set 20 = .ok (.iload_n 2, 1) := by decide +kernel
theorem dX4_set_21 : decode cX4_set 21 = .ok (.invokevirtual 45, 3) := by decide +kernel
theorem dX4_set_24 : decode cX4_set 24 = .ok (.invokevirtual 49, 3) := by decide +kernel
theorem dX4_set_27 : decode cX4_set 27 = .ok (.ireturn, 1) := by decide +kernel
theorem dX4_bounds_0 : decode cX4_bounds 0 = .ok (.aload_n 0, 1) := by decide +kernel
theorem dX4_bounds_1 : decode cX4_bounds 1 = .ok (.getfield 30, 3) := by decide +kernel
theorem dX4_bounds_4 : decode cX4_bounds 4 = .ok (.aload_n 0, 1) := by decide +kernel
theorem dX4_bounds_5 : decode cX4_bounds 5 = .ok (.getfield 10, 3) := by decide +kernel
theorem dX4_bounds_8 : decode cX4_bounds 8 = .ok (.invokevirtual 41, 3) := by decide +kernel
theorem dX4_bounds_11 : decode cX4_bounds 11 = .ok (.aload_n 0, 1) := by decide +kernel
theorem dX4_bounds_12 : decode cX4_bounds 12 = .ok (.getfield 30, 3) := by decide +kernel
theorem dX4_bounds_15 : decode cX4_bounds 15 = .ok (.aload_n 0, 1) := by decide +kernel
theorem dX4_bounds_16 : decode cX4_bounds 16 = .ok (.getfield 10, 3) := by decide +kernel
theorem dX4_bounds_19 : decode cX4_bounds 19 = .ok (.iload_n 1, 1) := by decide +kernel
theorem dX4_bounds_20 : decode cX4_bounds 20 = .ok (.iload_n 2, 1) := by decide +kernel
theorem dX4_bounds_21 : decode cX4_bounds 21 = .ok (.iload_n 3, 1) := by decide +kernel
theorem dX4_bounds_22 : decode cX4_bounds 22 = .ok (.invokevirtual 53, 3) := by decide +kernel
theorem dX4_bounds_25 : decode cX4_bounds 25 = .ok (.invokevirtual 49, 3) := by decide +kernel
theorem dX4_bounds_28 : decode cX4_bounds 28 = .ok (.ireturn, 1) := by decide +kernel
theorem dX4_come_0 : decode cX4_come 0 = .ok (.aload_n 0, 1) := by decide +kernel
theorem dX4_come_1 : decode cX4_come 1 = .ok (.getfield 30, 3) := by decide +kernel
theorem dX4_come_4 : decode cX4_come 4 = .ok (.aload_n 0, 1) := by decide +kernel
theorem dX4_come_5 : decode cX4_come 5 = .ok (.getfield 10, 3) := by decide +kernel
theorem dX4_come_8 : decode cX4_come 8 = .ok (.invokevirtual 41, 3) := by decide +kernel
theorem dX4_come_11 : decode cX4_come 11 = .ok (.aload_n 0, 1) := by decide +kernel
theorem dX4_come_12 : decode cX4_come 12 = .ok (.getfield 30, 3) := by decide +kernel
theorem dX4_come_15 : decode cX4_come 15 = .ok (.aload_n 0, 1) := by decide +kernel
theorem dX4_come_16 : decode cX4_come 16 = .ok (.getfield 10, 3) := by decide +kernel
theorem dX4_come_19 : decode cX4_come 19 = .ok (.iload_n 1, 1) := by decide +kernel
theorem dX4_come_20 : decode cX4_come 20 = .ok (.invokevirtual 57, 3) := by decide +kernel
theorem dX4_come_23 : decode cX4_come 23 = .ok (.invokevirtual 49, 3) := by decide +kernel
theorem dX4_come_26 : decode cX4_come 26 = .ok (.ireturn, 1) := by decide +kernel
theorem dX4_mask_0 : decode cX4_mask 0 = .ok (.aload_n 0, 1) := by decide +kernel
theorem dX4_mask_1 : decode cX4_mask 1 = .ok (.getfield 30, 3) := by decide +kernel
theorem dX4_mask_4 : decode cX4_mask 4 = .ok (.aload_n 0, 1) := by decide +kernel
theorem dX4_mask_5 : decode cX4_mask 5 = .ok (.getfield 10, 3) := by decide +kernel
theorem dX4_mask_8 : decode cX4_mask 8 = .ok (.invokevirtual 41, 3) := by decide +kernel
theorem dX4_mask_11 : decode cX4_mask 11 = .ok (.aload_n 0, 1) := by decide +kernel
theorem dX4_mask_12 : decode cX4_mask 12 = .ok (.getfield 30, 3) := by decide +kernel
theorem dX4_mask_15 : decode cX4_mask 15 = .ok (.aload_n 0, 1) := by decide +kernel
theorem dX4_mask_16 : decode cX4_mask 16 = .ok (.getfield 10, 3) := by decide +kernel
theorem dX4_mask_19 : decode cX4_mask 19 = .ok (.iload_n 1, 1) := by decide +kernel
theorem dX4_mask_20 : decode cX4_mask 20 = .ok (.invokevirtual 60, 3) := by decide +kernel
theorem dX4_mask_23 : decode cX4_mask 23 = .ok (.invokevirtual 49, 3) := by decide +kernel
theorem dX4_mask_26 : decode cX4_mask 26 = .ok (.ireturn, 1) := by decide +kernel
theorem dX4_call_0 : decode cX4_call 0 = .ok (.aload_n 0, 1) := by decide +kernel
theorem dX4_call_1 : decode cX4_call 1 = .ok (.getfield 30, 3) := by decide +kernel
theorem dX4_call_4 : decode cX4_call 4 = .ok (.aload_n 0, 1) := by decide +kernel
theorem dX4_call_5 : decode cX4_call 5 = .ok (.getfield 10, 3) := by decide +kernel
theorem dX4_call_8 : decode cX4_call 8 = .ok (.invokevirtual 41, 3) := by decide +kernel
theorem dX4_call_11 : decode cX4_call 11 = .ok (.aload_n 0, 1) := by decide +kernel
theorem dX4_call_12 : decode cX4_call 12 = .ok (.getfield 30, 3) := by decide +kernel
theorem dX4_call_15 : decode cX4_call 15 = .ok (.aload_n 0, 1) := by decide +kernel
theorem dX4_call_16 : decode cX4_call 16 = .ok (.getfield 10, 3) := by decide +kernel
theorem dX4_call_19 : decode cX4_call 19 = .ok (.iload_n 1, 1) := by decide +kernel
theorem dX4_call_20 : decode cX4_call 20 = .ok (.invokevirtual 63, 3) := by decide +kernel
theorem dX4_call_23 : decode cX4_call 23 = .ok (.invokevirtual 49, 3) := by decide +kernel
theorem dX4_call_26 : decode cX4_call 26 = .ok (.ireturn, 1) := by decide +kernel
theorem dX4_pass_0 : decode cX4_pass 0 = .ok (.aload_n 0, 1) := by decide +kernel
theorem dX4_pass_1 : decode cX4_pass 1 = .ok (.getfield 30, 3) := by decide +kernel
theorem dX4_pass_4 : decode cX4_pass 4 = .ok (.aload_n 0, 1) := by decide +kernel
theorem dX4_pass_5 : decode cX4_pass 5 = .ok (.getfield 10, 3) := by decide +kernel
theorem dX4_pass_8 : decode cX4_pass 8 = .ok (.invokevirtual 41, 3) := by decide +kernel
theorem dX4_pass_11 : decode cX4_pass 11 = .ok (.aload_n 0, 1) := by decide +kernel
theorem dX4_pass_12 : decode cX4_pass 12 = .ok (.getfield 30, 3) := by decide +kernel
theorem dX4_pass_15 : decode cX4_pass 15 = .ok (.aload_n 0, 1) := by decide +kernel
theorem dX4_pass_16 : decode cX4_pass 16 = .ok (.getfield 10, 3) := by decide +kernel
theorem dX4_pass_19 : decode cX4_pass 19 = .ok (.iload_n 1, 1) := by decide +kernel
theorem dX4_pass_20 : decode cX4_pass 20 = .ok (.invokevirtual 66, 3) := by decide +kernel
theorem dX4_pass_23 : decode cX4_pass 23 = .ok (.invokevirtual 49, 3) := by decide +kernel
theorem dX4_pass_26 : decode cX4_pass 26 = .ok (.ireturn, 1) := by decide +kernel
theorem dX4_of_0 : decode cX4_of 0 = .ok (.iload_n 1, 1) := by decide +kernel
theorem dX4_of_1 : decode cX4_of 1 = .ok (.invokestatic 69, 3) := by decide +kernel
theorem dX4_of_4 : decode cX4_of 4 = .ok (.ifCond .ne 5, 3) := by decide +kernel
theorem dX4_of_7 : decode cX4_of 7 = .ok (.iconst (-1), 1) := by decide +kernel
theorem dX4_of_8 : decode cX4_of 8 = .ok (.ireturn, 1) := by decide +kernel
theorem dX4_of_9 : decode cX4_of 9 = .ok (.aload_n 0, 1) := by decide +kernel
theorem dX4_of_10 : decode cX4_of 10 = .ok (.getfield 10, 3) := by decide +kernel
theorem dX4_of_13 : decode cX4_of 13 = .ok (.getfield 73, 3) := by decide +kernel
theorem dX4_of_16 : decode cX4_of 16 = .ok (.iload_n 1, 1) := by decide +kernel
theorem dX4_of_17 : decode cX4_of 17 = .ok (.aaload, 1) := by decide +kernel
theorem dX4_of_18 : decode cX4_of 18 = .ok (.iload_n 2, 1) := by decide +kernel
theorem dX4_of_19 : decode cX4_of 19 = .ok (.invokevirtual 77, 3) := by decide +kernel
theorem dX4_of_22 : decode cX4_of 22 = .ok (.ireturn, 1) := by decide +kernel
theorem dX4_frame_0 : decode cX4_frame 0 = .ok (.aload_n 0, 1) := by decide +kernel
theorem dX4_frame_1 : decode cX4_frame 1 = .ok (.getfield 10, 3) := by decide +kernel
theorem dX4_frame_4 : decode cX4_frame 4 = .ok (.iload_n 1, 1) := by decide +kernel
theorem dX4_frame_5 : decode cX4_frame 5 = .ok (.invokevirtual 82, 3) := by decide +kernel
theorem dX4_frame_8 : decode cX4_frame 8 = .ok (.ifCond .ne 5, 3) := by decide +kernel
theorem dX4_frame_11 : decode cX4_frame 11 = .ok (.iconst (-1), 1) := by decide +kernel
theorem dX4_frame_12 : decode cX4_frame 12 = .ok (.ireturn, 1) := by decide +kernel
theorem dX4_frame_13 : decode cX4_frame 13 = .ok (.aload_n 0, 1) := by decide +kernel
theorem dX4_frame_14 : decode cX4_frame 14 = .ok (.getfield 10, 3) := by decide +kernel
theorem dX4_frame_17 : decode cX4_frame 17 = .ok (.iload_n 1, 1) := by decide +kernel
theorem dX4_frame_18 : decode cX4_frame 18 = .ok (.iload_n 2, 1) := by decide +kernel
theorem dX4_frame_19 : decode cX4_frame 19 = .ok (.invokevirtual 85, 3) := by decide +kernel
theorem dX4_frame_22 : decode cX4_frame 22 = .ok (.ireturn, 1) := by decide +kernel
theorem dX4_row_0 : decode cX4_row 0 = .ok (.iload_n 1, 1) := by decide +kernel
theorem dX4_row_1 : decode cX4_row 1 = .ok (.ifCond .ge 5, 3) := by decide +kernel
theorem dX4_row_4 : decode cX4_row 4 = .ok (.iconst (-1), 1) := by decide +kernel
theorem dX4_row_5 : decode cX4_row 5 = .ok (.ireturn, 1) := by decide +kernel
theorem dX4_row_6 : decode cX4_row 6 = .ok (.aload_n 0, 1) := by decide +kernel
theorem dX4_row_7 : decode cX4_row 7 = .ok (.getfield 10, 3) := by decide +kernel
theorem dX4_row_10 : decode cX4_row 10 = .ok (.iload_n 1, 1) := by decide +kernel
theorem dX4_row_11 : decode cX4_row 11 = .ok (.invokevirtual 88, 3) := by decide +kernel
theorem dX4_row_14 : decode cX4_row 14 = .ok (.ireturn, 1) := by decide +kernel
theorem dX4_count_0 : decode cX4_count 0 = .ok (.iload_n 1, 1) := by decide +kernel
theorem dX4_count_1 : decode cX4_count 1 = .ok (.tableswitch 186 0 12 #[67, 75, 83, 92, 102, 112, 122, 130, 140, 150, 160, 170, 178], 67) := by decide +kernel
theorem dX4_count_68 : decode cX4_count 68 = .ok (.aload_n 0, 1) := by decide +kernel
theorem dX4_count_69 : decode cX4_count 69 = .ok (.getfield 10, 3) := by decide +kernel
theorem dX4_count_72 : decode cX4_count 72 = .ok (.getfield 91, 3) := by decide +kernel
theorem dX4_count_75 : decode cX4_count 75 = .ok (.ireturn, 1) := by decide +kernel
theorem dX4_count_76 : decode cX4_count 76 = .ok (.aload_n 0, 1) := by decide +kernel
theorem dX4_count_77 : decode cX4_count 77 = .ok (.getfield 10, 3) := by decide +kernel
theorem dX4_count_80 : decode cX4_count 80 = .ok (.getfield 95, 3) := by decide +kernel
theorem dX4_count_83 : decode cX4_count 83 = .ok (.ireturn, 1) := by decide +kernel
theorem dX4_count_84 : decode cX4_count 84 = .ok (.aload_n 0, 1) := by decide +kernel
theorem dX4_count_85 : decode cX4_count 85 = .ok (.getfield 10, 3) := by decide +kernel
theorem dX4_count_88 : decode cX4_count 88 = .ok (.iconst 3, 1) := by decide +kernel
theorem dX4_count_89 : decode cX4_count 89 = .ok (.invokevirtual 98, 3) := by decide +kernel
theorem dX4_count_92 : decode cX4_count 92 = .ok (.ireturn, 1) := by decide +kernel
theorem dX4_count_93 : decode cX4_count 93 = .ok (.aload_n 0, 1) := by decide +kernel
theorem dX4_count_94 : decode cX4_count 94 = .ok (.getfield 10, 3) := by decide +kernel
theorem dX4_count_97 : decode cX4_count 97 = .ok (.bipush 7, 2) := by decide +kernel
theorem dX4_count_99 : decode cX4_count 99 = .ok (.invokevirtual 98, 3) := by decide +kernel
theorem dX4_count_102 : decode cX4_count 102 = .ok (.ireturn, 1) := by decide +kernel
theorem dX4_count_103 : decode cX4_count 103 = .ok (.aload_n 0, 1) := by decide +kernel
theorem dX4_count_104 : decode cX4_count 104 = .ok (.getfield 10, 3) := by decide +kernel
theorem dX4_count_107 : decode cX4_count 107 = .ok (.bipush 8, 2) := by decide +kernel
theorem dX4_count_109 : decode cX4_count 109 = .ok (.invokevirtual 98, 3) := by decide +kernel
theorem dX4_count_112 : decode cX4_count 112 = .ok (.ireturn, 1) := by decide +kernel
theorem dX4_count_113 : decode cX4_count 113 = .ok (.aload_n 0, 1) := by decide +kernel
theorem dX4_count_114 : decode cX4_count 114 = .ok (.getfield 10, 3) := by decide +kernel
theorem dX4_count_117 : decode cX4_count 117 = .ok (.bipush 6, 2) := by decide +kernel
theorem dX4_count_119 : decode cX4_count 119 = .ok (.invokevirtual 98, 3) := by decide +kernel
theorem dX4_count_122 : decode cX4_count 122 = .ok (.ireturn, 1) := by decide +kernel
theorem dX4_count_123 : decode cX4_count 123 = .ok (.aload_n 0, 1) := by decide +kernel
theorem dX4_count_124 : decode cX4_count 124 = .ok (.getfield 10, 3) := by decide +kernel
theorem dX4_count_127 : decode cX4_count 127 = .ok (.invokevirtual 101, 3) := by decide +kernel
theorem dX4_count_130 : decode cX4_count 130 = .ok (.ireturn, 1) := by decide +kernel
theorem dX4_count_131 : decode cX4_count 131 = .ok (.aload_n 0, 1) := by decide +kernel
theorem dX4_count_132 : decode cX4_count 132 = .ok (.getfield 10, 3) := by decide +kernel
theorem dX4_count_135 : decode cX4_count 135 = .ok (.getfield 105, 3) := by decide +kernel
theorem dX4_count_138 : decode cX4_count 138 = .ok (.iconst 0, 1) := by decide +kernel
theorem dX4_count_139 : decode cX4_count 139 = .ok (.iaload, 1) := by decide +kernel
theorem dX4_count_140 : decode cX4_count 140 = .ok (.ireturn, 1) := by decide +kernel
theorem dX4_count_141 : decode cX4_count 141 = .ok (.aload_n 0, 1) := by decide +kernel
theorem dX4_count_142 : decode cX4_count 142 = .ok (.getfield 10, 3) := by decide +kernel
theorem dX4_count_145 : decode cX4_count 145 = .ok (.getfield 105, 3) := by decide +kernel
theorem dX4_count_148 : decode cX4_count 148 = .ok (.iconst 1, 1) := by decide +kernel
theorem dX4_count_149 : decode cX4_count 149 = .ok (.iaload, 1) := by decide +kernel
theorem dX4_count_150 : decode cX4_count 150 = .ok (.ireturn, 1) := by decide +kernel
theorem dX4_count_151 : decode cX4_count 151 = .ok (.aload_n 0, 1) := by decide +kernel
theorem dX4_count_152 : decode cX4_count 152 = .ok (.getfield 10, 3) := by decide +kernel
theorem dX4_count_155 : decode cX4_count 155 = .ok (.getfield 105, 3) := by decide +kernel
theorem dX4_count_158 : decode cX4_count 158 = .ok (.iconst 2, 1) := by decide +kernel
theorem dX4_count_159 : decode cX4_count 159 = .ok (.iaload, 1) := by decide +kernel
theorem dX4_count_160 : decode cX4_count 160 = .ok (.ireturn, 1) := by decide +kernel
theorem dX4_count_161 : decode cX4_count 161 = .ok (.aload_n 0, 1) := by decide +kernel
theorem dX4_count_162 : decode cX4_count 162 = .ok (.getfield 10, 3) := by decide +kernel
theorem dX4_count_165 : decode cX4_count 165 = .ok (.getfield 105, 3) := by decide +kernel
theorem dX4_count_168 : decode cX4_count 168 = .ok (.iconst 3, 1) := by decide +kernel
theorem dX4_count_169 : decode cX4_count 169 = .ok (.iaload, 1) := by decide +kernel
theorem dX4_count_170 : decode cX4_count 170 = .ok (.ireturn, 1) := by decide +kernel
theorem dX4_count_171 : decode cX4_count 171 = .ok (.aload_n 0, 1) := by decide +kernel
theorem dX4_count_172 : decode cX4_count 172 = .ok (.getfield 37, 3) := by decide +kernel
theorem dX4_count_175 : decode cX4_count 175 = .ok (.getfield 109, 3) := by decide +kernel
theorem dX4_count_178 : decode cX4_count 178 = .ok (.ireturn, 1) := by decide +kernel
theorem dX4_count_179 : decode cX4_count 179 = .ok (.aload_n 0, 1) := by decide +kernel
theorem dX4_count_180 : decode cX4_count 180 = .ok (.getfield 30, 3) := by decide +kernel
theorem dX4_count_183 : decode cX4_count 183 = .ok (.getfield 112, 3) := by decide +kernel
theorem dX4_count_186 : decode cX4_count 186 = .ok (.ireturn, 1) := by decide +kernel
theorem dX4_count_187 : decode cX4_count 187 = .ok (.bipush (-2), 2) := by decide +kernel
theorem dX4_count_189 : decode cX4_count 189 = .ok (.ireturn, 1) := by decide +kernel
theorem dX4_why_0 : decode cX4_why 0 = .ok (.iload_n 1, 1) := by decide +kernel
theorem dX4_why_1 : decode cX4_why 1 = .ok (.invokestatic 69, 3) := by decide +kernel
theorem dX4_why_4 : decode cX4_why 4 = .ok (.ifCond .ne 5, 3) := by decide +kernel
theorem dX4_why_7 : decode cX4_why 7 = .ok (.iconst (-1), 1) := by decide +kernel
theorem dX4_why_8 : decode cX4_why 8 = .ok (.ireturn, 1) := by decide +kernel
theorem dX4_why_9 : decode cX4_why 9 = .ok (.aload_n 0, 1) := by decide +kernel
theorem dX4_why_10 : decode cX4_why 10 = .ok (.getfield 10, 3) := by decide +kernel
theorem dX4_why_13 : decode cX4_why 13 = .ok (.aload_n 0, 1) := by decide +kernel
theorem dX4_why_14 : decode cX4_why 14 = .ok (.getfield 10, 3) := by decide +kernel
theorem dX4_why_17 : decode cX4_why 17 = .ok (.getfield 73, 3) := by decide +kernel
theorem dX4_why_20 : decode cX4_why 20 = .ok (.iload_n 1, 1) := by decide +kernel
theorem dX4_why_21 : decode cX4_why 21 = .ok (.aaload, 1) := by decide +kernel
theorem dX4_why_22 : decode cX4_why 22 = .ok (.invokevirtual 115, 3) := by decide +kernel
theorem dX4_why_25 : decode cX4_why 25 = .ok (.ireturn, 1) := by decide +kernel
theorem dX4_takenIn_0 : decode cX4_takenIn 0 = .ok (.aload_n 0, 1) := by decide +kernel
theorem dX4_takenIn_1 : decode cX4_takenIn 1 = .ok (.getfield 10, 3) := by decide +kernel
theorem dX4_takenIn_4 : decode cX4_takenIn 4 = .ok (.iload_n 1, 1) := by decide +kernel
theorem dX4_takenIn_5 : decode cX4_takenIn 5 = .ok (.invokevirtual 82, 3) := by decide +kernel
theorem dX4_takenIn_8 : decode cX4_takenIn 8 = .ok (.ifCond .ne 5, 3) := by decide +kernel
theorem dX4_takenIn_11 : decode cX4_takenIn 11 = .ok (.iconst (-1), 1) := by decide +kernel
theorem dX4_takenIn_12 : decode cX4_takenIn 12 = .ok (.ireturn, 1) := by decide +kernel
theorem dX4_takenIn_13 : decode cX4_takenIn 13 = .ok (.aload_n 0, 1) := by decide +kernel
theorem dX4_takenIn_14 : decode cX4_takenIn 14 = .ok (.getfield 10, 3) := by decide +kernel
theorem dX4_takenIn_17 : decode cX4_takenIn 17 = .ok (.getfield 119, 3) := by decide +kernel
theorem dX4_takenIn_20 : decode cX4_takenIn 20 = .ok (.iload_n 1, 1) := by decide +kernel
theorem dX4_takenIn_21 : decode cX4_takenIn 21 = .ok (.iaload, 1) := by decide +kernel
theorem dX4_takenIn_22 : decode cX4_takenIn 22 = .ok (.ifCond .eq 6, 3) := by decide +kernel
theorem dX4_takenIn_25 : decode cX4_takenIn 25 = .ok (.bipush (-5), 2) := by decide +kernel
theorem dX4_takenIn_27 : decode cX4_takenIn 27 = .ok (.ireturn, 1) := by decide +kernel
theorem dX4_takenIn_28 : decode cX4_takenIn 28 = .ok (.aload_n 0, 1) := by decide +kernel
theorem dX4_takenIn_29 : decode cX4_takenIn 29 = .ok (.getfield 16, 3) := by decide +kernel
theorem dX4_takenIn_32 : decode cX4_takenIn 32 = .ok (.aload_n 0, 1) := by decide +kernel
theorem dX4_takenIn_33 : decode cX4_takenIn 33 = .ok (.getfield 10, 3) := by decide +kernel
theorem dX4_takenIn_36 : decode cX4_takenIn 36 = .ok (.invokevirtual 122, 3) := by decide +kernel
theorem dX4_takenIn_39 : decode cX4_takenIn 39 = .ok (.iconst 1, 1) := by decide +kernel
theorem dX4_takenIn_40 : decode cX4_takenIn 40 = .ok (.istore_n 2, 1) := by decide +kernel
theorem dX4_takenIn_41 : decode cX4_takenIn 41 = .ok (.iload_n 2, 1) := by decide +kernel
theorem dX4_takenIn_42 : decode cX4_takenIn 42 = .ok (.sipush 500, 3) := by decide +kernel
theorem dX4_takenIn_45 : decode cX4_takenIn 45 = .ok (.if_icmp .gt 32, 3) := by decide +kernel
theorem dX4_takenIn_48 : decode cX4_takenIn 48 = .ok (.aload_n 0, 1) := by decide +kernel
theorem dX4_takenIn_49 : decode cX4_takenIn 49 = .ok (.getfield 16, 3) := by decide +kernel
theorem dX4_takenIn_52 : decode cX4_takenIn 52 = .ok (.invokevirtual 125, 3) := by decide +kernel
theorem dX4_takenIn_55 : decode cX4_takenIn 55 = .ok (.pop, 1) := by decide +kernel
theorem dX4_takenIn_56 : decode cX4_takenIn 56 = .ok (.aload_n 0, 1) := by decide +kernel
theorem dX4_takenIn_57 : decode cX4_takenIn 57 = .ok (.getfield 16, 3) := by decide +kernel
theorem dX4_takenIn_60 : decode cX4_takenIn 60 = .ok (.getfield 119, 3) := by decide +kernel
theorem dX4_takenIn_63 : decode cX4_takenIn 63 = .ok (.iload_n 1, 1) := by decide +kernel
theorem dX4_takenIn_64 : decode cX4_takenIn 64 = .ok (.iaload, 1) := by decide +kernel
theorem dX4_takenIn_65 : decode cX4_takenIn 65 = .ok (.iconst 1, 1) := by decide +kernel
theorem dX4_takenIn_66 : decode cX4_takenIn 66 = .ok (.if_icmp .ne 5, 3) := by decide +kernel
theorem dX4_takenIn_69 : decode cX4_takenIn 69 = .ok (.iload_n 2, 1) := by decide +kernel
theorem dX4_takenIn_70 : decode cX4_takenIn 70 = .ok (.ireturn, 1) := by decide +kernel
theorem dX4_takenIn_71 : decode cX4_takenIn 71 = .ok (.iinc 2 1, 3) := by decide +kernel
theorem dX4_takenIn_74 : decode cX4_takenIn 74 = .ok (.goto (-33), 3) := by decide +kernel
theorem dX4_takenIn_77 : decode cX4_takenIn 77 = .ok (.bipush (-6), 2) := by decide +kernel
theorem dX4_takenIn_79 : decode cX4_takenIn 79 = .ok (.ireturn, 1) := by decide +kernel
theorem dX4_would_0 : decode cX4_would 0 = .ok (.iload_n 1, 1) := by decide +kernel
theorem dX4_would_1 : decode cX4_would 1 = .ok (.iconst 1, 1) := by decide +kernel
theorem dX4_would_2 : decode cX4_would 2 = .ok (.if_icmp .lt 18, 3) := by decide +kernel
theorem dX4_would_5 : decode cX4_would 5 = .ok (.iload_n 1, 1) := by decide +kernel
theorem dX4_would_6 : decode cX4_would 6 = .ok (.bipush 99, 2) := by decide +kernel
theorem dX4_would_8 : decode cX4_would 8 = .ok (.if_icmp .gt 12, 3) := by decide +kernel
theorem dX4_would_11 : decode cX4_would 11 = .ok (.iload_n 2, 1) := by decide +kernel
theorem dX4_would_12 : decode cX4_would 12 = .ok (.ifCond .lt 8, 3) := by decide +kernel
theorem dX4_would_15 : decode cX4_would 15 = .ok (.iload_n 2, 1) := by decide +kernel
theorem dX4_would_16 : decode cX4_would 16 = .ok (.iconst 3, 1) := by decide +kernel
theorem dX4_would_17 : decode cX4_would 17 = .ok (.if_icmp .le 6, 3) := by decide +kernel
theorem dX4_would_20 : decode cX4_would 20 = .ok (.bipush (-2), 2) := by decide +kernel
theorem dX4_would_22 : decode cX4_would 22 = .ok (.ireturn, 1) := by decide +kernel
theorem dX4_would_23 : decode cX4_would 23 = .ok (.aload_n 0, 1) := by decide +kernel
theorem dX4_would_24 : decode cX4_would 24 = .ok (.getfield 16, 3) := by decide +kernel
theorem dX4_would_27 : decode cX4_would 27 = .ok (.aload_n 0, 1) := by decide +kernel
theorem dX4_would_28 : decode cX4_would 28 = .ok (.getfield 10, 3) := by decide +kernel
theorem dX4_would_31 : decode cX4_would 31 = .ok (.invokevirtual 122, 3) := by decide +kernel
theorem dX4_would_34 : decode cX4_would 34 = .ok (.aload_n 0, 1) := by decide +kernel
theorem dX4_would_35 : decode cX4_would 35 = .ok (.getfield 16, 3) := by decide +kernel
theorem dX4_would_38 : decode cX4_would 38 = .ok (.iload_n 1, 1) := by decide +kernel
theorem dX4_would_39 : decode cX4_would 39 = .ok (.invokevirtual 128, 3) := by decide +kernel
theorem dX4_would_42 : decode cX4_would 42 = .ok (.pop, 1) := by decide +kernel
theorem dX4_would_43 : decode cX4_would 43 = .ok (.iload_n 2, 1) := by decide +kernel
theorem dX4_would_44 : decode cX4_would 44 = .ok (.tableswitch 88 0 2 #[28, 48, 68], 28) := by decide +kernel
theorem dX4_would_72 : decode cX4_would 72 = .ok (.aload_n 0, 1) := by decide +kernel
theorem dX4_would_73 : decode cX4_would 73 = .ok (.getfield 16, 3) := by decide +kernel
theorem dX4_would_76 : decode cX4_would 76 = .ok (.bipush 7, 2) := by decide +kernel
theorem dX4_would_78 : decode cX4_would 78 = .ok (.invokevirtual 98, 3) := by decide +kernel
theorem dX4_would_81 : decode cX4_would 81 = .ok (.aload_n 0, 1) := by decide +kernel
theorem dX4_would_82 : decode cX4_would 82 = .ok (.getfield 10, 3) := by decide +kernel
theorem dX4_would_85 : decode cX4_would 85 = .ok (.bipush 7, 2) := by decide +kernel
theorem dX4_would_87 : decode cX4_would 87 = .ok (.invokevirtual 98, 3) := by decide +kernel
theorem dX4_would_90 : decode cX4_would 90 = .ok (.isub, 1) := by decide +kernel
theorem dX4_would_91 : decode cX4_would 91 = .ok (.ireturn, 1) := by decide +kernel
theorem dX4_would_92 : decode cX4_would 92 = .ok (.aload_n 0, 1) := by decide +kernel
theorem dX4_would_93 : decode cX4_would 93 = .ok (.getfield 16, 3) := by decide +kernel
theorem dX4_would_96 : decode cX4_would 96 = .ok (.bipush 6, 2) := by decide +kernel
theorem dX4_would_98 : decode cX4_would 98 = .ok (.invokevirtual 98, 3) := by decide +kernel
theorem dX4_would_101 : decode cX4_would 101 = .ok (.aload_n 0, 1) := by decide +kernel
theorem dX4_would_102 : decode cX4_would 102 = .ok (.getfield 10, 3) := by decide +kernel
theorem dX4_would_105 : decode cX4_would 105 = .ok (.bipush 6, 2) := by decide +kernel
theorem dX4_would_107 : decode cX4_would 107 = .ok (.invokevirtual 98, 3) := by decide +kernel
theorem dX4_would_110 : decode cX4_would 110 = .ok (.isub, 1) := by decide +kernel
theorem dX4_would_111 : decode cX4_would 111 = .ok (.ireturn, 1) := by decide +kernel
theorem dX4_would_112 : decode cX4_would 112 = .ok (.aload_n 0, 1) := by decide +kernel
theorem dX4_would_113 : decode cX4_would 113 = .ok (.getfield 16, 3) := by decide +kernel
theorem dX4_would_116 : decode cX4_would 116 = .ok (.bipush 9, 2) := by decide +kernel
theorem dX4_would_118 : decode cX4_would 118 = .ok (.invokevirtual 98, 3) := by decide +kernel
theorem dX4_would_121 : decode cX4_would 121 = .ok (.aload_n 0, 1) := by decide +kernel
theorem dX4_would_122 : decode cX4_would 122 = .ok (.getfield 10, 3) := by decide +kernel
theorem dX4_would_125 : decode cX4_would 125 = .ok (.bipush 9, 2) := by decide +kernel
theorem dX4_would_127 : decode cX4_would 127 = .ok (.invokevirtual 98, 3) := by decide +kernel
theorem dX4_would_130 : decode cX4_would 130 = .ok (.isub, 1) := by decide +kernel
theorem dX4_would_131 : decode cX4_would 131 = .ok (.ireturn, 1) := by decide +kernel
theorem dX4_would_132 : decode cX4_would 132 = .ok (.aload_n 0, 1) := by decide +kernel
theorem dX4_would_133 : decode cX4_would 133 = .ok (.getfield 16, 3) := by decide +kernel
theorem dX4_would_136 : decode cX4_would 136 = .ok (.iconst 3, 1) := by decide +kernel
theorem dX4_would_137 : decode cX4_would 137 = .ok (.invokevirtual 98, 3) := by decide +kernel
theorem dX4_would_140 : decode cX4_would 140 = .ok (.ireturn, 1) := by decide +kernel
theorem dX4_bestCount_0 : decode cX4_bestCount 0 = .ok (.iload_n 1, 1) := by decide +kernel
theorem dX4_bestCount_1 : decode cX4_bestCount 1 = .ok (.invokestatic 69, 3) := by decide +kernel
theorem dX4_bestCount_4 : decode cX4_bestCount 4 = .ok (.ifCond .ne 5, 3) := by decide +kernel
theorem dX4_bestCount_7 : decode cX4_bestCount 7 = .ok (.iconst (-1), 1) := by decide +kernel
theorem dX4_bestCount_8 : decode cX4_bestCount 8 = .ok (.ireturn, 1) := by decide +kernel
theorem dX4_bestCount_9 : decode cX4_bestCount 9 = .ok (.iload_n 2, 1) := by decide +kernel
theorem dX4_bestCount_10 : decode cX4_bestCount 10 = .ok (.iconst 1, 1) := by decide +kernel
theorem dX4_bestCount_11 : decode cX4_bestCount 11 = .ok (.if_icmp .lt 18, 3) := by decide +kernel
theorem dX4_bestCount_14 : decode cX4_bestCount 14 = .ok (.iload_n 2, 1) := by decide +kernel
theorem dX4_bestCount_15 : decode cX4_bestCount 15 = .ok (.bipush 20, 2) := by decide +kernel
theorem dX4_bestCount_17 : decode cX4_bestCount 17 = .ok (.if_icmp .gt 12, 3) := by decide +kernel
theorem dX4_bestCount_20 : decode cX4_bestCount 20 = .ok (.iload_n 3, 1) := by decide +kernel
theorem dX4_bestCount_21 : decode cX4_bestCount 21 = .ok (.ifCond .lt 8, 3) := by decide +kernel
theorem dX4_bestCount_24 : decode cX4_bestCount 24 = .ok (.iload_n 3, 1) := by decide +kernel
theorem dX4_bestCount_25 : decode cX4_bestCount 25 = .ok (.iconst 1, 1) := by decide +kernel
theorem dX4_bestCount_26 : decode cX4_bestCount 26 = .ok (.if_icmp .le 6, 3) := by decide +kernel
theorem dX4_bestCount_29 : decode cX4_bestCount 29 = .ok (.bipush (-2), 2) := by decide +kernel
theorem dX4_bestCount_31 : decode cX4_bestCount 31 = .ok (.ireturn, 1) := by decide +kernel
theorem dX4_bestCount_32 : decode cX4_bestCount 32 = .ok (.iconst 1, 1) := by decide +kernel
theorem dX4_bestCount_33 : decode cX4_bestCount 33 = .ok (.istore 4, 2) := by decide +kernel
theorem dX4_bestCount_35 : decode cX4_bestCount 35 = .ok (.aload_n 0, 1) := by decide +kernel
theorem dX4_bestCount_36 : decode cX4_bestCount 36 = .ok (.iload_n 1, 1) := by decide +kernel
theorem dX4_bestCount_37 : decode cX4_bestCount 37 = .ok (.iconst 1, 1) := by decide +kernel
theorem dX4_bestCount_38 : decode cX4_bestCount 38 = .ok (.iload_n 2, 1) := by decide +kernel
theorem dX4_bestCount_39 : decode cX4_bestCount 39 = .ok (.invokevirtual 131, 3) := by decide +kernel
theorem dX4_bestCount_42 : decode cX4_bestCount 42 = .ok (.istore 5, 2) := by decide +kernel
theorem dX4_bestCount_44 : decode cX4_bestCount 44 = .ok (.iconst 2, 1) := by decide +kernel
theorem dX4_bestCount_45 : decode cX4_bestCount 45 = .ok (.istore 6, 2) := by decide +kernel
theorem dX4_bestCount_47 : decode cX4_bestCount 47 = .ok (.iload 6, 2) := by decide +kernel
theorem dX4_bestCount_49 : decode cX4_bestCount 49 = .ok (.bipush 32, 2) := by decide +kernel
theorem dX4_bestCount_51 : decode cX4_bestCount 51 = .ok (.if_icmp .gt 34, 3) := by decide +kernel
theorem dX4_bestCount_54 : decode cX4_bestCount 54 = .ok (.aload_n 0, 1) := by decide +kernel
theorem dX4_bestCount_55 : decode cX4_bestCount 55 = .ok (.iload_n 1, 1) := by decide +kernel
theorem dX4_bestCount_56 : decode cX4_bestCount 56 = .ok (.iload 6, 2) := by decide +kernel
theorem dX4_bestCount_58 : decode cX4_bestCount 58 = .ok (.iload_n 2, 1) := by decide +kernel
theorem dX4_bestCount_59 : decode cX4_bestCount 59 = .ok (.invokevirtual 131, 3) := by decide +kernel
theorem dX4_bestCount_62 : decode cX4_bestCount 62 = .ok (.istore 7, 2) := by decide +kernel
theorem dX4_bestCount_64 : decode cX4_bestCount 64 = .ok (.iload 7, 2) := by decide +kernel
theorem dX4_bestCount_66 : decode cX4_bestCount 66 = .ok (.iload 5, 2) := by decide +kernel
theorem dX4_bestCount_68 : decode cX4_bestCount 68 = .ok (.if_icmp .ge 11, 3) := by decide +kernel
theorem dX4_bestCount_71 : decode cX4_bestCount 71 = .ok (.iload 6, 2) := by decide +kernel
theorem dX4_bestCount_73 : decode cX4_bestCount 73 = .ok (.istore 4, 2) := by decide +kernel
theorem dX4_bestCount_75 : decode cX4_bestCount 75 = .ok (.iload 7, 2) := by decide +kernel
theorem dX4_bestCount_77 : decode cX4_bestCount 77 = .ok (.istore 5, 2) := by decide +kernel
theorem dX4_bestCount_79 : decode cX4_bestCount 79 = .ok (.iinc 6 1, 3) := by decide +kernel
theorem dX4_bestCount_82 : decode cX4_bestCount 82 = .ok (.goto (-35), 3) := by decide +kernel
theorem dX4_bestCount_85 : decode cX4_bestCount 85 = .ok (.iload_n 3, 1) := by decide +kernel
theorem dX4_bestCount_86 : decode cX4_bestCount 86 = .ok (.ifCond .ne 8, 3) := by decide +kernel
theorem dX4_bestCount_89 : decode cX4_bestCount 89 = .ok (.iload 4, 2) := by decide +kernel
theorem dX4_bestCount_91 : decode cX4_bestCount 91 = .ok (.goto 5, 3) := by decide +kernel
theorem dX4_bestCount_94 : decode cX4_bestCount 94 = .ok (.iload 5, 2) := by decide +kernel
theorem dX4_bestCount_96 : decode cX4_bestCount 96 = .ok (.ireturn, 1) := by decide +kernel
theorem dX4_put_0 : decode cX4_put 0 = .ok (.aload_n 0, 1) := by decide +kernel
theorem dX4_put_1 : decode cX4_put 1 = .ok (.getfield 37, 3) := by decide +kernel
theorem dX4_put_4 : decode cX4_put 4 = .ok (.lload_n 1, 1) := by decide +kernel
theorem dX4_put_5 : decode cX4_put 5 = .ok (.invokevirtual 134, 3) := by decide +kernel
theorem dX4_put_8 : decode cX4_put 8 = .ok (.ireturn, 1) := by decide +kernel
theorem dX4_wipe_0 : decode cX4_wipe 0 = .ok (.aload_n 0, 1) := by decide +kernel
theorem dX4_wipe_1 : decode cX4_wipe 1 = .ok (.getfield 37, 3) := by decide +kernel
theorem dX4_wipe_4 : decode cX4_wipe 4 = .ok (.invokevirtual 138, 3) := by decide +kernel
theorem dX4_wipe_7 : decode cX4_wipe 7 = .ok (.ireturn, 1) := by decide +kernel
theorem dX4_carryOut_0 : decode cX4_carryOut 0 = .ok (.aload_n 0, 1) := by decide +kernel
theorem dX4_carryOut_1 : decode cX4_carryOut 1 = .ok (.getfield 37, 3) := by decide +kernel
theorem dX4_carryOut_4 : decode cX4_carryOut 4 = .ok (.invokevirtual 141, 3) := by decide +kernel
theorem dX4_carryOut_7 : decode cX4_carryOut 7 = .ok (.bipush (-6), 2) := by decide +kernel
theorem dX4_carryOut_9 : decode cX4_carryOut 9 = .ok (.if_icmp .eq 6, 3) := by decide +kernel
theorem dX4_carryOut_12 : decode cX4_carryOut 12 = .ok (.bipush (-3), 2) := by decide +kernel
theorem dX4_carryOut_14 : decode cX4_carryOut 14 = .ok (.ireturn, 1) := by decide +kernel
theorem dX4_carryOut_15 : decode cX4_carryOut 15 = .ok (.aload_n 0, 1) := by decide +kernel
theorem dX4_carryOut_16 : decode cX4_carryOut 16 = .ok (.getfield 30, 3) := by decide +kernel
theorem dX4_carryOut_19 : decode cX4_carryOut 19 = .ok (.aload_n 0, 1) := by decide +kernel
theorem dX4_carryOut_20 : decode cX4_carryOut 20 = .ok (.getfield 10, 3) := by decide +kernel
theorem dX4_carryOut_23 : decode cX4_carryOut 23 = .ok (.invokevirtual 41, 3) := by decide +kernel
theorem dX4_carryOut_26 : decode cX4_carryOut 26 = .ok (.iconst 0, 1) := by decide +kernel
theorem dX4_carryOut_27 : decode cX4_carryOut 27 = .ok (.istore_n 1, 1) := by decide +kernel
theorem dX4_carryOut_28 : decode cX4_carryOut 28 = .ok (.iconst 1, 1) := by decide +kernel
theorem dX4_carryOut_29 : decode cX4_carryOut 29 = .ok (.istore_n 2, 1) := by decide +kernel
theorem dX4_carryOut_30 : decode cX4_carryOut 30 = .ok (.aload_n 0, 1) := by decide +kernel
theorem dX4_carryOut_31 : decode cX4_carryOut 31 = .ok (.getfield 37, 3) := by decide +kernel
theorem dX4_carryOut_34 : decode cX4_carryOut 34 = .ok (.invokevirtual 144, 3) := by decide +kernel
theorem dX4_carryOut_37 : decode cX4_carryOut 37 = .ok (.iconst 0, 1) := by decide +kernel
theorem dX4_carryOut_38 : decode cX4_carryOut 38 = .ok (.istore_n 3, 1) := by decide +kernel
theorem dX4_carryOut_39 : decode cX4_carryOut 39 = .ok (.iload_n 3, 1) := by decide +kernel
theorem dX4_carryOut_40 : decode cX4_carryOut 40 = .ok (.bipush 80, 2) := by decide +kernel
theorem dX4_carryOut_42 : decode cX4_carryOut 42 = .ok (.if_icmp .ge 73, 3) := by decide +kernel
theorem dX4_carryOut_45 : decode cX4_carryOut 45 = .ok (.iload_n 2, 1) := by decide +kernel
theorem dX4_carryOut_46 : decode cX4_carryOut 46 = .ok (.ifCond .eq 69, 3) := by decide +kernel
theorem dX4_carryOut_49 : decode cX4_carryOut 49 = .ok (.aload_n 0, 1) := by decide +kernel
theorem dX4_carryOut_50 : decode cX4_carryOut 50 = .ok (.getfield 37, 3) := by decide +kernel
theorem dX4_carryOut_53 : decode cX4_carryOut 53 = .ok (.invokevirtual 147, 3) := by decide +kernel
theorem dX4_carryOut_56 : decode cX4_carryOut 56 = .ok (.ifCond .eq 59, 3) := by decide +kernel
theorem dX4_carryOut_59 : decode cX4_carryOut 59 = .ok (.iconst 0, 1) := by decide +kernel
theorem dX4_carryOut_60 : decode cX4_carryOut 60 = .ok (.istore 4, 2) := by decide +kernel
theorem dX4_carryOut_62 : decode cX4_carryOut 62 = .ok (.iload 4, 2) := by decide +kernel
theorem dX4_carryOut_64 : decode cX4_carryOut 64 = .ok (.aload_n 0, 1) := by decide +kernel
theorem dX4_carryOut_65 : decode cX4_carryOut 65 = .ok (.getfield 37, 3) := by decide +kernel
theorem dX4_carryOut_68 : decode cX4_carryOut 68 = .ok (.getfield 151, 3) := by decide +kernel
theorem dX4_carryOut_71 : decode cX4_carryOut 71 = .ok (.if_icmp .ge 38, 3) := by decide +kernel
theorem dX4_carryOut_74 : decode cX4_carryOut 74 = .ok (.iload_n 2, 1) := by decide +kernel
theorem dX4_carryOut_75 : decode cX4_carryOut 75 = .ok (.ifCond .eq 34, 3) := by decide +kernel
theorem dX4_carryOut_78 : decode cX4_carryOut 78 = .ok (.aload_n 0, 1) := by decide +kernel
theorem dX4_carryOut_79 : decode cX4_carryOut 79 = .ok (.invokevirtual 154, 3) := by decide +kernel
theorem dX4_carryOut_82 : decode cX4_carryOut 82 = .ok (.ifCond .lt 7, 3) := by decide +kernel
theorem dX4_carryOut_85 : decode cX4_carryOut 85 = .ok (.iconst 1, 1) := by decide +kernel
theorem dX4_carryOut_86 : decode cX4_carryOut 86 = .ok (.goto 4, 3) := by decide +kernel
theorem dX4_carryOut_89 : decode cX4_carryOut 89 = .ok (.iconst 0, 1) := by decide +kernel
theorem dX4_carryOut_90 : decode cX4_carryOut 90 = .ok (.istore_n 2, 1) := by decide +kernel
theorem dX4_carryOut_91 : decode cX4_carryOut 91 = .ok (.iload_n 1, 1) := by decide +kernel
theorem dX4_carryOut_92 : decode cX4_carryOut 92 = .ok (.iload_n 2, 1) := by decide +kernel
theorem dX4_carryOut_93 : decode cX4_carryOut 93 = .ok (.ifCond .eq 7, 3) := by decide +kernel
theorem dX4_carryOut_96 : decode cX4_carryOut 96 = .ok (.iconst 1, 1) := by decide +kernel
theorem dX4_carryOut_97 : decode cX4_carryOut 97 = .ok (.goto 4, 3) := by decide +kernel
theorem dX4_carryOut_100 : decode cX4_carryOut 100 = .ok (.iconst 0, 1) := by decide +kernel
theorem dX4_carryOut_101 : decode cX4_carryOut 101 = .ok (.iadd, 1) := by decide +kernel
theorem dX4_carryOut_102 : decode cX4_carryOut 102 = .ok (.istore_n 1, 1) := by decide +kernel
theorem dX4_carryOut_103 : decode cX4_carryOut 103 = .ok (.iinc 4 1, 3) := by decide +kernel
theorem dX4_carryOut_106 : decode cX4_carryOut 106 = .ok (.goto (-44), 3) := by decide +kernel
theorem dX4_carryOut_109 : decode cX4_carryOut 109 = .ok (.iinc 3 1, 3) := by decide +kernel
theorem dX4_carryOut_112 : decode cX4_carryOut 112 = .ok (.goto (-73), 3) := by decide +kernel
theorem dX4_carryOut_115 : decode cX4_carryOut 115 = .ok (.aload_n 0, 1) := by decide +kernel
theorem dX4_carryOut_116 : decode cX4_carryOut 116 = .ok (.getfield 37, 3) := by decide +kernel
theorem dX4_carryOut_119 : decode cX4_carryOut 119 = .ok (.invokevirtual 138, 3) := by decide +kernel
theorem dX4_carryOut_122 : decode cX4_carryOut 122 = .ok (.pop, 1) := by decide +kernel
theorem dX4_carryOut_123 : decode cX4_carryOut 123 = .ok (.aload_n 0, 1) := by decide +kernel
theorem dX4_carryOut_124 : decode cX4_carryOut 124 = .ok (.getfield 30, 3) := by decide +kernel
theorem dX4_carryOut_127 : decode cX4_carryOut 127 = .ok (.iload_n 1, 1) := by decide +kernel
theorem dX4_carryOut_128 : decode cX4_carryOut 128 = .ok (.invokevirtual 49, 3) := by decide +kernel
theorem dX4_carryOut_131 : decode cX4_carryOut 131 = .ok (.ireturn, 1) := by decide +kernel
theorem dX4_save_0 : decode cX4_save 0 = .ok (.iload_n 1, 1) := by decide +kernel
theorem dX4_save_1 : decode cX4_save 1 = .ok (.invokestatic 161, 3) := by decide +kernel
theorem dX4_save_4 : decode cX4_save 4 = .ok (.ifCond .ne 6, 3) := by decide +kernel
theorem dX4_save_7 : decode cX4_save 7 = .ok (.bipush (-2), 2) := by decide +kernel
theorem dX4_save_9 : decode cX4_save 9 = .ok (.ireturn, 1) := by decide +kernel
theorem dX4_save_10 : decode cX4_save 10 = .ok (.aload_n 0, 1) := by decide +kernel
theorem dX4_save_11 : decode cX4_save 11 = .ok (.getfield 19, 3) := by decide +kernel
theorem dX4_save_14 : decode cX4_save 14 = .ok (.iload_n 1, 1) := by decide +kernel
theorem dX4_save_15 : decode cX4_save 15 = .ok (.aaload, 1) := by decide +kernel
theorem dX4_save_16 : decode cX4_save 16 = .ok (.aload_n 0, 1) := by decide +kernel
theorem dX4_save_17 : decode cX4_save 17 = .ok (.getfield 10, 3) := by decide +kernel
theorem dX4_save_20 : decode cX4_save 20 = .ok (.invokevirtual 122, 3) := by decide +kernel
theorem dX4_save_23 : decode cX4_save 23 = .ok (.aload_n 0, 1) := by decide +kernel
theorem dX4_save_24 : decode cX4_save 24 = .ok (.getfield 23, 3) := by decide +kernel
theorem dX4_save_27 : decode cX4_save 27 = .ok (.iload_n 1, 1) := by decide +kernel
theorem dX4_save_28 : decode cX4_save 28 = .ok (.iconst 1, 1) := by decide +kernel
theorem dX4_save_29 : decode cX4_save 29 = .ok (.bastore, 1) := by decide +kernel
theorem dX4_save_30 : decode cX4_save 30 = .ok (.aload_n 0, 1) := by decide +kernel
theorem dX4_save_31 : decode cX4_save 31 = .ok (.getfield 10, 3) := by decide +kernel
theorem dX4_save_34 : decode cX4_save 34 = .ok (.getfield 95, 3) := by decide +kernel
theorem dX4_save_37 : decode cX4_save 37 = .ok (.ireturn, 1) := by decide +kernel
theorem dX4_restore_0 : decode cX4_restore 0 = .ok (.iload_n 1, 1) := by decide +kernel
theorem dX4_restore_1 : decode cX4_restore 1 = .ok (.invokestatic 161, 3) := by decide +kernel
theorem dX4_restore_4 : decode cX4_restore 4 = .ok (.ifCond .ne 6, 3) := by decide +kernel
theorem dX4_restore_7 : decode cX4_restore 7 = .ok (.bipush (-2), 2) := by decide +kernel
theorem dX4_restore_9 : decode cX4_restore 9 = .ok (.ireturn, 1) := by decide +kernel
theorem dX4_restore_10 : decode cX4_restore 10 = .ok (.aload_n 0, 1) := by decide +kernel
theorem dX4_restore_11 : decode cX4_restore 11 = .ok (.getfield 23, 3) := by decide +kernel
theorem dX4_restore_14 : decode cX4_restore 14 = .ok (.iload_n 1, 1) := by decide +kernel
theorem dX4_restore_15 : decode cX4_restore 15 = .ok (.baload, 1) := by decide +kernel
theorem dX4_restore_16 : decode cX4_restore 16 = .ok (.ifCond .ne 6, 3) := by decide +kernel
theorem dX4_restore_19 : decode cX4_restore 19 = .ok (.bipush (-5), 2) := by decide +kernel
theorem dX4_restore_21 : decode cX4_restore 21 = .ok (.ireturn, 1) := by decide +kernel
theorem dX4_restore_22 : decode cX4_restore 22 = .ok (.aload_n 0, 1) := by decide +kernel
theorem dX4_restore_23 : decode cX4_restore 23 = .ok (.getfield 30, 3) := by decide +kernel
theorem dX4_restore_26 : decode cX4_restore 26 = .ok (.aload_n 0, 1) := by decide +kernel
theorem dX4_restore_27 : decode cX4_restore 27 = .ok (.getfield 10, 3) := by decide +kernel
theorem dX4_restore_30 : decode cX4_restore 30 = .ok (.invokevirtual 41, 3) := by decide +kernel
theorem dX4_restore_33 : decode cX4_restore 33 = .ok (.aload_n 0, 1) := by decide +kernel
theorem dX4_restore_34 : decode cX4_restore 34 = .ok (.getfield 10, 3) := by decide +kernel
theorem dX4_restore_37 : decode cX4_restore 37 = .ok (.aload_n 0, 1) := by decide +kernel
theorem dX4_restore_38 : decode cX4_restore 38 = .ok (.getfield 19, 3) := by decide +kernel
theorem dX4_restore_41 : decode cX4_restore 41 = .ok (.iload_n 1, 1) := by decide +kernel
theorem dX4_restore_42 : decode cX4_restore 42 = .ok (.aaload, 1) := by decide +kernel
theorem dX4_restore_43 : decode cX4_restore 43 = .ok (.invokevirtual 122, 3) := by decide +kernel
theorem dX4_restore_46 : decode cX4_restore 46 = .ok (.aload_n 0, 1) := by decide +kernel
theorem dX4_restore_47 : decode cX4_restore 47 = .ok (.getfield 30, 3) := by decide +kernel
theorem dX4_restore_50 : decode cX4_restore 50 = .ok (.aload_n 0, 1) := by decide +kernel
theorem dX4_restore_51 : decode cX4_restore 51 = .ok (.getfield 10, 3) := by decide +kernel
theorem dX4_restore_54 : decode cX4_restore 54 = .ok (.getfield 95, 3) := by decide +kernel
theorem dX4_restore_57 : decode cX4_restore 57 = .ok (.invokevirtual 49, 3) := by decide +kernel
theorem dX4_restore_60 : decode cX4_restore 60 = .ok (.ireturn, 1) := by decide +kernel
theorem dX4_isQueue_0 : decode cX4_isQueue 0 = .ok (.iload_n 0, 1) := by decide +kernel
theorem dX4_isQueue_1 : decode cX4_isQueue 1 = .ok (.ifCond .lt 12, 3) := by decide +kernel
theorem dX4_isQueue_4 : decode cX4_isQueue 4 = .ok (.iload_n 0, 1) := by decide +kernel
theorem dX4_isQueue_5 : decode cX4_isQueue 5 = .ok (.iconst 3, 1) := by decide +kernel
theorem dX4_isQueue_6 : decode cX4_isQueue 6 = .ok (.if_icmp .ge 7, 3) := by decide +kernel
theorem dX4_isQueue_9 : decode cX4_isQueue 9 = .ok (.iconst 1, 1) := by decide +kernel
theorem dX4_isQueue_10 : decode cX4_isQueue 10 = .ok (.goto 4, 3) := by decide +kernel
theorem dX4_isQueue_13 : decode cX4_isQueue 13 = .ok (.iconst 0, 1) := by decide +kernel
theorem dX4_isQueue_14 : decode cX4_isQueue 14 = .ok (.ireturn, 1) := by decide +kernel
theorem dX4_isSlot_0 : decode cX4_isSlot 0 = .ok (.iload_n 0, 1) := by decide +kernel
theorem dX4_isSlot_1 : decode cX4_isSlot 1 = .ok (.ifCond .lt 12, 3) := by decide +kernel
theorem dX4_isSlot_4 : decode cX4_isSlot 4 = .ok (.iload_n 0, 1) := by decide +kernel
theorem dX4_isSlot_5 : decode cX4_isSlot 5 = .ok (.iconst 2, 1) := by decide +kernel
theorem dX4_isSlot_6 : decode cX4_isSlot 6 = .ok (.if_icmp .ge 7, 3) := by decide +kernel
theorem dX4_isSlot_9 : decode cX4_isSlot 9 = .ok (.iconst 1, 1) := by decide +kernel
theorem dX4_isSlot_10 : decode cX4_isSlot 10 = .ok (.goto 4, 3) := by decide +kernel
theorem dX4_isSlot_13 : decode cX4_isSlot 13 = .ok (.iconst 0, 1) := by decide +kernel
theorem dX4_isSlot_14 : decode cX4_isSlot 14 = .ok (.ireturn, 1) := by decide +kernel
theorem dX4_trialCost_0 : decode cX4_trialCost 0 = .ok (.aload_n 0, 1) := by decide +kernel
theorem dX4_trialCost_1 : decode cX4_trialCost 1 = .ok (.getfield 16, 3) := by decide +kernel
theorem dX4_trialCost_4 : decode cX4_trialCost 4 = .ok (.aload_n 0, 1) := by decide +kernel
theorem dX4_trialCost_5 : decode cX4_trialCost 5 = .ok (.getfield 10, 3) := by decide +kernel
theorem dX4_trialCost_8 : decode cX4_trialCost 8 = .ok (.invokevirtual 164, 3) := by decide +kernel
theorem dX4_trialCost_11 : decode cX4_trialCost 11 = .ok (.aload_n 0, 1) := by decide +kernel
theorem dX4_trialCost_12 : decode cX4_trialCost 12 = .ok (.getfield 16, 3) := by decide +kernel
theorem dX4_trialCost_15 : decode cX4_trialCost 15 = .ok (.iload_n 1, 1) := by decide +kernel
theorem dX4_trialCost_16 : decode cX4_trialCost 16 = .ok (.iload_n 2, 1) := by decide +kernel
theorem dX4_trialCost_17 : decode cX4_trialCost 17 = .ok (.aload_n 0, 1) := by decide +kernel
theorem dX4_trialCost_18 : decode cX4_trialCost 18 = .ok (.getfield 10, 3) := by decide +kernel
theorem dX4_trialCost_21 : decode cX4_trialCost 21 = .ok (.getfield 73, 3) := by decide +kernel
theorem dX4_trialCost_24 : decode cX4_trialCost 24 = .ok (.iload_n 1, 1) := by decide +kernel
theorem dX4_trialCost_25 : decode cX4_trialCost 25 = .ok (.aaload, 1) := by decide +kernel
theorem dX4_trialCost_26 : decode cX4_trialCost 26 = .ok (.getfield 167, 3) := by decide +kernel
theorem dX4_trialCost_29 : decode cX4_trialCost 29 = .ok (.invokevirtual 53, 3) := by decide +kernel
theorem dX4_trialCost_32 : decode cX4_trialCost 32 = .ok (.pop, 1) := by decide +kernel
theorem dX4_trialCost_33 : decode cX4_trialCost 33 = .ok (.iconst 0, 1) := by decide +kernel
theorem dX4_trialCost_34 : decode cX4_trialCost 34 = .ok (.istore 4, 2) := by decide +kernel
theorem dX4_trialCost_36 : decode cX4_trialCost 36 = .ok (.iload 4, 2) := by decide +kernel
theorem dX4_trialCost_38 : decode cX4_trialCost 38 = .ok (.bipush 16, 2) := by decide +kernel
theorem dX4_trialCost_40 : decode cX4_trialCost 40 = .ok (.if_icmp .ge 27, 3) := by decide +kernel
theorem dX4_trialCost_43 : decode cX4_trialCost 43 = .ok (.aload_n 0, 1) := by decide +kernel
theorem dX4_trialCost_44 : decode cX4_trialCost 44 = .ok (.getfield 16, 3) := by decide +kernel
theorem dX4_trialCost_47 : decode cX4_trialCost 47 = .ok (.iload_n 1, 1) := by decide +kernel
theorem dX4_trialCost_48 : decode cX4_trialCost 48 = .ok (.invokevirtual 57, 3) := by decide +kernel
theorem dX4_trialCost_51 : decode cX4_trialCost 51 = .ok (.pop, 1) := by decide +kernel
theorem dX4_trialCost_52 : decode cX4_trialCost 52 = .ok (.aload_n 0, 1) := by decide +kernel
theorem dX4_trialCost_53 : decode cX4_trialCost 53 = .ok (.getfield 16, 3) := by decide +kernel
theorem dX4_trialCost_56 : decode cX4_trialCost 56 = .ok (.iload_n 3, 1) := by decide +kernel
theorem dX4_trialCost_57 : decode cX4_trialCost 57 = .ok (.invokevirtual 128, 3) := by decide +kernel
theorem dX4_trialCost_60 : decode cX4_trialCost 60 = .ok (.pop, 1) := by decide +kernel
theorem dX4_trialCost_61 : decode cX4_trialCost 61 = .ok (.iinc 4 1, 3) := by decide +kernel
theorem dX4_trialCost_64 : decode cX4_trialCost 64 = .ok (.goto (-28), 3) := by decide +kernel
theorem dX4_trialCost_67 : decode cX4_trialCost 67 = .ok (.iconst 0, 1) := by decide +kernel
theorem dX4_trialCost_68 : decode cX4_trialCost 68 = .ok (.istore 4, 2) := by decide +kernel
theorem dX4_trialCost_70 : decode cX4_trialCost 70 = .ok (.iload 4, 2) := by decide +kernel
theorem dX4_trialCost_72 : decode cX4_trialCost 72 = .ok (.sipush 1000, 3) := by decide +kernel
theorem dX4_trialCost_75 : decode cX4_trialCost 75 = .ok (.if_icmp .ge 32, 3) := by decide +kernel
theorem dX4_trialCost_78 : decode cX4_trialCost 78 = .ok (.aload_n 0, 1) := by decide +kernel
theorem dX4_trialCost_79 : decode cX4_trialCost 79 = .ok (.getfield 16, 3) := by decide +kernel
theorem dX4_trialCost_82 : decode cX4_trialCost 82 = .ok (.getfield 73, 3) := by decide +kernel
theorem dX4_trialCost_85 : decode cX4_trialCost 85 = .ok (.iload_n 1, 1) := by decide +kernel
theorem dX4_trialCost_86 : decode cX4_trialCost 86 = .ok (.aaload, 1) := by decide +kernel
theorem dX4_trialCost_87 : decode cX4_trialCost 87 = .ok (.getfield 170, 3) := by decide +kernel
theorem dX4_trialCost_90 : decode cX4_trialCost 90 = .ok (.ifCond .le 17, 3) := by decide +kernel
theorem dX4_trialCost_93 : decode cX4_trialCost 93 = .ok (.aload_n 0, 1) := by decide +kernel
theorem dX4_trialCost_94 : decode cX4_trialCost 94 = .ok (.getfield 16, 3) := by decide +kernel
theorem dX4_trialCost_97 : decode cX4_trialCost 97 = .ok (.invokevirtual 125, 3) := by decide +kernel
theorem dX4_trialCost_100 : decode cX4_trialCost 100 = .ok (.pop, 1) := by decide +kernel
theorem dX4_trialCost_101 : decode cX4_trialCost 101 = .ok (.iinc 4 1, 3) := by decide +kernel
theorem dX4_trialCost_104 : decode cX4_trialCost 104 = .ok (.goto (-34), 3) := by decide +kernel
theorem dX4_trialCost_107 : decode cX4_trialCost 107 = .ok (.aload_n 0, 1) := by decide +kernel
theorem dX4_trialCost_108 : decode cX4_trialCost 108 = .ok (.getfield 16, 3) := by decide +kernel
theorem dX4_trialCost_111 : decode cX4_trialCost 111 = .ok (.bipush 9, 2) := by decide +kernel
theorem dX4_trialCost_113 : decode cX4_trialCost 113 = .ok (.invokevirtual 98, 3) := by decide +kernel
theorem dX4_trialCost_116 : decode cX4_trialCost 116 = .ok (.aload_n 0, 1) := by decide +kernel
theorem dX4_trialCost_117 : decode cX4_trialCost 117 = .ok (.getfield 16, 3) := by decide +kernel
theorem dX4_trialCost_120 : decode cX4_trialCost 120 = .ok (.getfield 105, 3) := by decide +kernel
theorem dX4_trialCost_123 : decode cX4_trialCost 123 = .ok (.iconst 3, 1) := by decide +kernel
theorem dX4_trialCost_124 : decode cX4_trialCost 124 = .ok (.iaload, 1) := by decide +kernel
theorem dX4_trialCost_125 : decode cX4_trialCost 125 = .ok (.aload_n 0, 1) := by decide +kernel
theorem dX4_trialCost_126 : decode cX4_trialCost 126 = .ok (.getfield 16, 3) := by decide +kernel
theorem dX4_trialCost_129 : decode cX4_trialCost 129 = .ok (.bipush 6, 2) := by decide +kernel
theorem dX4_trialCost_131 : decode cX4_trialCost 131 = .ok (.invokevirtual 98, 3) := by decide +kernel
theorem dX4_trialCost_134 : decode cX4_trialCost 134 = .ok (.imul, 1) := by decide +kernel
theorem dX4_trialCost_135 : decode cX4_trialCost 135 = .ok (.iadd, 1) := by decide +kernel
theorem dX4_trialCost_136 : decode cX4_trialCost 136 = .ok (.ireturn, 1) := by decide +kernel
theorem dX4_carryOrder_0 : decode cX4_carryOrder 0 = .ok (.aload_n 0, 1) := by decide +kernel
theorem dX4_carryOrder_1 : decode cX4_carryOrder 1 = .ok (.getfield 37, 3) := by decide +kernel
theorem dX4_carryOrder_4 : decode cX4_carryOrder 4 = .ok (.getfield 173, 3) := by decide +kernel
theorem dX4_carryOrder_7 : decode cX4_carryOrder 7 = .ok (.lookupswitch 92 #[(102, 33), (113, 63), (116, 48)], 33) := by decide +kernel
theorem dX4_carryOrder_40 : decode cX4_carryOrder 40 = .ok (.aload_n 0, 1) := by decide +kernel
theorem dX4_carryOrder_41 : decode cX4_carryOrder 41 = .ok (.getfield 10, 3) := by decide +kernel
theorem dX4_carryOrder_44 : decode cX4_carryOrder 44 = .ok (.aload_n 0, 1) := by decide +kernel
theorem dX4_carryOrder_45 : decode cX4_carryOrder 45 = .ok (.getfield 37, 3) := by decide +kernel
theorem dX4_carryOrder_48 : decode cX4_carryOrder 48 = .ok (.getfield 177, 3) := by decide +kernel
theorem dX4_carryOrder_51 : decode cX4_carryOrder 51 = .ok (.invokevirtual 57, 3) := by decide +kernel
theorem dX4_carryOrder_54 : decode cX4_carryOrder 54 = .ok (.ireturn, 1) := by decide +kernel
theorem dX4_carryOrder_55 : decode cX4_carryOrder 55 = .ok (.aload_n 0, 1) := by decide +kernel
theorem dX4_carryOrder_56 : decode cX4_carryOrder 56 = .ok (.getfield 10, 3) := by decide +kernel
theorem dX4_carryOrder_59 : decode cX4_carryOrder 59 = .ok (.aload_n 0, 1) := by decide +kernel
theorem dX4_carryOrder_60 : decode cX4_carryOrder 60 = .ok (.getfield 37, 3) := by decide +kernel
theorem dX4_carryOrder_63 : decode cX4_carryOrder 63 = .ok (.getfield 177, 3) := by decide +kernel
theorem dX4_carryOrder_66 : decode cX4_carryOrder 66 = .ok (.invokevirtual 66, 3) := by decide +kernel
theorem dX4_carryOrder_69 : decode cX4_carryOrder 69 = .ok (.ireturn, 1) := by decide +kernel
theorem dX4_carryOrder_70 : decode cX4_carryOrder 70 = .ok (.aload_n 0, 1) := by decide +kernel
theorem dX4_carryOrder_71 : decode cX4_carryOrder 71 = .ok (.getfield 10, 3) := by decide +kernel
theorem dX4_carryOrder_74 : decode cX4_carryOrder 74 = .ok (.aload_n 0, 1) := by decide +kernel
theorem dX4_carryOrder_75 : decode cX4_carryOrder 75 = .ok (.getfield 37, 3) := by decide +kernel
theorem dX4_carryOrder_78 : decode cX4_carryOrder 78 = .ok (.getfield 177, 3) := by decide +kernel
theorem dX4_carryOrder_81 : decode cX4_carryOrder 81 = .ok (.aload_n 0, 1) := by decide +kernel
theorem dX4_carryOrder_82 : decode cX4_carryOrder 82 = .ok (.getfield 37, 3) := by decide +kernel
theorem dX4_carryOrder_85 : decode cX4_carryOrder 85 = .ok (.getfield 180, 3) := by decide +kernel
theorem dX4_carryOrder_88 : decode cX4_carryOrder 88 = .ok (.aload_n 0, 1) := by decide +kernel
theorem dX4_carryOrder_89 : decode cX4_carryOrder 89 = .ok (.getfield 37, 3) := by decide +kernel
theorem dX4_carryOrder_92 : decode cX4_carryOrder 92 = .ok (.getfield 183, 3) := by decide +kernel
theorem dX4_carryOrder_95 : decode cX4_carryOrder 95 = .ok (.invokevirtual 53, 3) := by decide +kernel
theorem dX4_carryOrder_98 : decode cX4_carryOrder 98 = .ok (.ireturn, 1) := by decide +kernel
theorem dX4_carryOrder_99 : decode cX4_carryOrder 99 = .ok (.aload_n 0, 1) := by decide +kernel
theorem dX4_carryOrder_100 : decode cX4_carryOrder 100 = .ok (.getfield 10, 3) := by decide +kernel
theorem dX4_carryOrder_103 : decode cX4_carryOrder 103 = .ok (.aload_n 0, 1) := by decide +kernel
theorem dX4_carryOrder_104 : decode cX4_carryOrder 104 = .ok (.getfield 37, 3) := by decide +kernel
theorem dX4_carryOrder_107 : decode cX4_carryOrder 107 = .ok (.getfield 177, 3) := by decide +kernel
theorem dX4_carryOrder_110 : decode cX4_carryOrder 110 = .ok (.invokevirtual 60, 3) := by decide +kernel
theorem dX4_carryOrder_113 : decode cX4_carryOrder 113 = .ok (.ireturn, 1) := by decide +kernel
theorem dL_cell_0 : decode cL_cell 0 = .ok (.iload_n 1, 1) := by decide +kernel
theorem dL_cell_1 : decode cL_cell 1 = .ok (.aload_n 0, 1) := by decide +kernel
theorem dL_cell_2 : decode cL_cell 2 = .ok (.arraylength, 1) := by decide +kernel
theorem dL_cell_3 : decode cL_cell 3 = .ok (.if_icmp .ge 9, 3) := by decide +kernel
theorem dL_cell_6 : decode cL_cell 6 = .ok (.aload_n 0, 1) := by decide +kernel
theorem dL_cell_7 : decode cL_cell 7 = .ok (.iload_n 1, 1) := by decide +kernel
theorem dL_cell_8 : decode cL_cell 8 = .ok (.iaload, 1) := by decide +kernel
theorem dL_cell_9 : decode cL_cell 9 = .ok (.goto 11, 3) := by decide +kernel
theorem dL_cell_12 : decode cL_cell 12 = .ok (.ldc 7, 2) := by decide +kernel
theorem dL_cell_14 : decode cL_cell 14 = .ok (.iload_n 1, 1) := by decide +kernel
theorem dL_cell_15 : decode cL_cell 15 = .ok (.sipush 1361, 3) := by decide +kernel
theorem dL_cell_18 : decode cL_cell 18 = .ok (.iadd, 1) := by decide +kernel
theorem dL_cell_19 : decode cL_cell 19 = .ok (.imul, 1) := by decide +kernel
theorem dL_cell_20 : decode cL_cell 20 = .ok (.ireturn, 1) := by decide +kernel
theorem dL_up_0 : decode cL_up 0 = .ok (.iload_n 0, 1) := by decide +kernel
theorem dL_up_1 : decode cL_up 1 = .ok (.ldc 8, 2) := by decide +kernel
theorem dL_up_3 : decode cL_up 3 = .ok (.iand, 1) := by decide +kernel
theorem dL_up_4 : decode cL_up 4 = .ok (.iload_n 1, 1) := by decide +kernel
theorem dL_up_5 : decode cL_up 5 = .ok (.irem, 1) := by decide +kernel
theorem dL_up_6 : decode cL_up 6 = .ok (.ireturn, 1) := by decide +kernel
theorem dL_number_0 : decode cL_number 0 = .ok (.iload_n 1, 1) := by decide +kernel
theorem dL_number_1 : decode cL_number 1 = .ok (.bipush 10, 2) := by decide +kernel
theorem dL_number_3 : decode cL_number 3 = .ok (.if_icmp .lt 18, 3) := by decide +kernel
theorem dL_number_6 : decode cL_number 6 = .ok (.aload_n 0, 1) := by decide +kernel
theorem dL_number_7 : decode cL_number 7 = .ok (.bipush 48, 2) := by decide +kernel
theorem dL_number_9 : decode cL_number 9 = .ok (.iload_n 1, 1) := by decide +kernel
theorem dL_number_10 : decode cL_number 10 = .ok (.bipush 10, 2) := by decide +kernel
theorem dL_number_12 : decode cL_number 12 = .ok (.idiv, 1) := by decide +kernel
theorem dL_number_13 : decode cL_number 13 = .ok (.iadd, 1) := by decide +kernel
theorem dL_number_14 : decode cL_number 14 = .ok (.i2l, 1) := by decide +kernel
theorem dL_number_15 : decode cL_number 15 = .ok (.invokevirtual 9, 3) := by decide +kernel
theorem dL_number_18 : decode cL_number 18 = .ok (.ifCond .le 22, 3) := by decide +kernel
theorem dL_number_21 : decode cL_number 21 = .ok (.aload_n 0, 1) := by decide +kernel
theorem dL_number_22 : decode cL_number 22 = .ok (.bipush 48, 2) := by decide +kernel
theorem dL_number_24 : decode cL_number 24 = .ok (.iload_n 1, 1) := by decide +kernel
theorem dL_number_25 : decode cL_number 25 = .ok (.bipush 10, 2) := by decide +kernel
theorem dL_number_27 : decode cL_number 27 = .ok (.irem, 1) := by decide +kernel
theorem dL_number_28 : decode cL_number 28 = .ok (.iadd, 1) := by decide +kernel
theorem dL_number_29 : decode cL_number 29 = .ok (.i2l, 1) := by decide +kernel
theorem dL_number_30 : decode cL_number 30 = .ok (.invokevirtual 9, 3) := by decide +kernel
theorem dL_number_33 : decode cL_number 33 = .ok (.ifCond .le 7, 3) := by decide +kernel
theorem dL_number_36 : decode cL_number 36 = .ok (.iconst 1, 1) := by decide +kernel
theorem dL_number_37 : decode cL_number 37 = .ok (.goto 4, 3) := by decide +kernel
theorem dL_number_40 : decode cL_number 40 = .ok (.iconst 0, 1) := by decide +kernel
theorem dL_number_41 : decode cL_number 41 = .ok (.ireturn, 1) := by decide +kernel
theorem dL_sum_0 : decode cL_sum 0 = .ok (.aload_n 0, 1) := by decide +kernel
theorem dL_sum_1 : decode cL_sum 1 = .ok (.iconst 0, 1) := by decide +kernel
theorem dL_sum_2 : decode cL_sum 2 = .ok (.iload_n 1, 1) := by decide +kernel
theorem dL_sum_3 : decode cL_sum 3 = .ok (.invokevirtual 15, 3) := by decide +kernel
theorem dL_sum_6 : decode cL_sum 6 = .ok (.aload_n 0, 1) := by decide +kernel
theorem dL_sum_7 : decode cL_sum 7 = .ok (.iconst 1, 1) := by decide +kernel
theorem dL_sum_8 : decode cL_sum 8 = .ok (.iload_n 1, 1) := by decide +kernel
theorem dL_sum_9 : decode cL_sum 9 = .ok (.invokevirtual 15, 3) := by decide +kernel
theorem dL_sum_12 : decode cL_sum 12 = .ok (.iadd, 1) := by decide +kernel
theorem dL_sum_13 : decode cL_sum 13 = .ok (.aload_n 0, 1) := by decide +kernel
theorem dL_sum_14 : decode cL_sum 14 = .ok (.iconst 2, 1) := by decide +kernel
theorem dL_sum_15 : decode cL_sum 15 = .ok (.iload_n 1, 1) := by decide +kernel
theorem dL_sum_16 : decode cL_sum 16 = .ok (.invokevirtual 15, 3) := by decide +kernel
theorem dL_sum_19 : decode cL_sum 19 = .ok (.iadd, 1) := by decide +kernel
theorem dL_sum_20 : decode cL_sum 20 = .ok (.ireturn, 1) := by decide +kernel
theorem dL_isStep_0 : decode cL_isStep 0 = .ok (.iload_n 2, 1) := by decide +kernel
theorem dL_isStep_1 : decode cL_isStep 1 = .ok (.iconst 4, 1) := by decide +kernel
theorem dL_isStep_2 : decode cL_isStep 2 = .ok (.ishr, 1) := by decide +kernel
theorem dL_isStep_3 : decode cL_isStep 3 = .ok (.istore 4, 2) := by decide +kernel
theorem dL_isStep_5 : decode cL_isStep 5 = .ok (.iload 4, 2) := by decide +kernel
theorem dL_isStep_7 : decode cL_isStep 7 = .ok (.iconst 3, 1) := by decide +kernel
theorem dL_isStep_8 : decode cL_isStep 8 = .ok (.invokestatic 19, 3) := by decide +kernel
theorem dL_isStep_11 : decode cL_isStep 11 = .ok (.istore 5, 2) := by decide +kernel
theorem dL_isStep_13 : decode cL_isStep 13 = .ok (.aload_n 0, 1) := by decide +kernel
theorem dL_isStep_14 : decode cL_isStep 14 = .ok (.iconst 1, 1) := by decide +kernel
theorem dL_isStep_15 : decode cL_isStep 15 = .ok (.invokevirtual 24, 3) := by decide +kernel
theorem dL_isStep_18 : decode cL_isStep 18 = .ok (.istore 6, 2) := by decide +kernel
theorem dL_isStep_20 : decode cL_isStep 20 = .ok (.iload_n 2, 1) := by decide +kernel
theorem dL_isStep_21 : decode cL_isStep 21 = .ok (.bipush 18, 2) := by decide +kernel
theorem dL_isStep_23 : decode cL_isStep 23 = .ok (.invokestatic 19, 3) := by decide +kernel
theorem dL_isStep_26 : decode cL_isStep 26 = .ok (.tableswitch 893 0 9 #[54, 187, 187, 381, 461, 597, 597, 597, 730, 825], 54) := by decide +kernel
theorem dL_isStep_80 : decode cL_isStep 80 = .ok (.iload 4, 2) := by decide +kernel
theorem dL_isStep_82 : decode cL_isStep 82 = .ok (.iconst 4, 1) := by decide +kernel
theorem dL_isStep_83 : decode cL_isStep 83 = .ok (.invokestatic 19, 3) := by decide +kernel
theorem dL_isStep_86 : decode cL_isStep 86 = .ok (.istore 7, 2) := by decide +kernel
theorem dL_isStep_88 : decode cL_isStep 88 = .ok (.iload 7, 2) := by decide +kernel
theorem dL_isStep_90 : decode cL_isStep 90 = .ok (.ifCond .ne 14, 3) := by decide +kernel
theorem dL_isStep_93 : decode cL_isStep 93 = .ok (.iconst 1, 1) := by decide +kernel
theorem dL_isStep_94 : decode cL_isStep 94 = .ok (.iload_n 3, 1) := by decide +kernel
theorem dL_isStep_95 : decode cL_isStep 95 = .ok (.bipush 32, 2) := by decide +kernel
theorem dL_isStep_97 : decode cL_isStep 97 = .ok (.invokestatic 19, 3) := by decide +kernel
theorem dL_isStep_100 : decode cL_isStep 100 = .ok (.iadd, 1) := by decide +kernel
theorem dL_isStep_101 : decode cL_isStep 101 = .ok (.goto 53, 3) := by decide +kernel
theorem dL_isStep_104 : decode cL_isStep 104 = .ok (.iload 7, 2) := by decide +kernel
theorem dL_isStep_106 : decode cL_isStep 106 = .ok (.iconst 1, 1) := by decide +kernel
theorem dL_isStep_107 : decode cL_isStep 107 = .ok (.if_icmp .ne 27, 3) := by decide +kernel
end
section
theorem dL_isStep_110 : decode cL_isStep 110 = .ok (.iconst 1, 1) := by decide +kernel
theorem dL_isStep_111 : decode cL_isStep 111 = .ok (.iload_n 3, 1) := by decide +kernel
theorem dL_isStep_112 : decode cL_isStep 112 = .ok (.iload 4, 2) := by decide +kernel
theorem dL_isStep_114 : decode cL_isStep 114 = .ok (.iconst 2, 1) := by decide +kernel
theorem dL_isStep_115 : decode cL_isStep 115 = .ok (.invokestatic 19, 3) := by decide +kernel
theorem dL_isStep_118 : decode cL_isStep 118 = .ok (.ifCond .ne 8, 3) := by decide +kernel
theorem dL_isStep_121 : decode cL_isStep 121 = .ok (.bipush 16, 2) := by decide +kernel
theorem dL_isStep_123 : decode cL_isStep 123 = .ok (.goto 4, 3) := by decide +kernel
theorem dL_isStep_126 : decode cL_isStep 126 = .ok (.iconst 3, 1) := by decide +kernel
theorem dL_isStep_127 : decode cL_isStep 127 = .ok (.invokestatic 19, 3) := by decide +kernel
theorem dL_isStep_130 : decode cL_isStep 130 = .ok (.iadd, 1) := by decide +kernel
theorem dL_isStep_131 : decode cL_isStep 131 = .ok (.goto 23, 3) := by decide +kernel
theorem dL_isStep_134 : decode cL_isStep 134 = .ok (.iload 7, 2) := by decide +kernel
theorem dL_isStep_136 : decode cL_isStep 136 = .ok (.iconst 2, 1) := by decide +kernel
theorem dL_isStep_137 : decode cL_isStep 137 = .ok (.if_icmp .ne 11, 3) := by decide +kernel
theorem dL_isStep_140 : decode cL_isStep 140 = .ok (.iload_n 3, 1) := by decide +kernel
theorem dL_isStep_141 : decode cL_isStep 141 = .ok (.iconst 2, 1) := by decide +kernel
theorem dL_isStep_142 : decode cL_isStep 142 = .ok (.invokestatic 19, 3) := by decide +kernel
theorem dL_isStep_145 : decode cL_isStep 145 = .ok (.goto 9, 3) := by decide +kernel
theorem dL_isStep_148 : decode cL_isStep 148 = .ok (.iload_n 3, 1) := by decide +kernel
theorem dL_isStep_149 : decode cL_isStep 149 = .ok (.bipush 51, 2) := by decide +kernel
theorem dL_isStep_151 : decode cL_isStep 151 = .ok (.invokestatic 19, 3) := by decide +kernel
theorem dL_isStep_154 : decode cL_isStep 154 = .ok (.istore 8, 2) := by decide +kernel
theorem dL_isStep_156 : decode cL_isStep 156 = .ok (.aload_n 0, 1) := by decide +kernel
theorem dL_isStep_157 : decode cL_isStep 157 = .ok (.bipush 7, 2) := by decide +kernel
theorem dL_isStep_159 : decode cL_isStep 159 = .ok (.iload 7, 2) := by decide +kernel
theorem dL_isStep_161 : decode cL_isStep 161 = .ok (.iadd, 1) := by decide +kernel
theorem dL_isStep_162 : decode cL_isStep 162 = .ok (.invokevirtual 24, 3) := by decide +kernel
theorem dL_isStep_165 : decode cL_isStep 165 = .ok (.istore 9, 2) := by decide +kernel
theorem dL_isStep_167 : decode cL_isStep 167 = .ok (.aload_n 0, 1) := by decide +kernel
theorem dL_isStep_168 : decode cL_isStep 168 = .ok (.iload 7, 2) := by decide +kernel
theorem dL_isStep_170 : decode cL_isStep 170 = .ok (.iload 8, 2) := by decide +kernel
theorem dL_isStep_172 : decode cL_isStep 172 = .ok (.invokevirtual 28, 3) := by decide +kernel
theorem dL_isStep_175 : decode cL_isStep 175 = .ok (.iload 9, 2) := by decide +kernel
theorem dL_isStep_177 : decode cL_isStep 177 = .ok (.if_icmp .ne 34, 3) := by decide +kernel
theorem dL_isStep_180 : decode cL_isStep 180 = .ok (.aload_n 1, 1) := by decide +kernel
theorem dL_isStep_181 : decode cL_isStep 181 = .ok (.iload 7, 2) := by decide +kernel
theorem dL_isStep_183 : decode cL_isStep 183 = .ok (.iload 8, 2) := by decide +kernel
theorem dL_isStep_185 : decode cL_isStep 185 = .ok (.invokevirtual 28, 3) := by decide +kernel
theorem dL_isStep_188 : decode cL_isStep 188 = .ok (.iload 9, 2) := by decide +kernel
theorem dL_isStep_190 : decode cL_isStep 190 = .ok (.if_icmp .ne 21, 3) := by decide +kernel
theorem dL_isStep_193 : decode cL_isStep 193 = .ok (.aload_n 0, 1) := by decide +kernel
theorem dL_isStep_194 : decode cL_isStep 194 = .ok (.bipush 7, 2) := by decide +kernel
theorem dL_isStep_196 : decode cL_isStep 196 = .ok (.iload 7, 2) := by decide +kernel
theorem dL_isStep_198 : decode cL_isStep 198 = .ok (.iadd, 1) := by decide +kernel
theorem dL_isStep_199 : decode cL_isStep 199 = .ok (.invokevirtual 24, 3) := by decide +kernel
theorem dL_isStep_202 : decode cL_isStep 202 = .ok (.iload 8, 2) := by decide +kernel
theorem dL_isStep_204 : decode cL_isStep 204 = .ok (.if_icmp .ne 7, 3) := by decide +kernel
theorem dL_isStep_207 : decode cL_isStep 207 = .ok (.iconst 1, 1) := by decide +kernel
theorem dL_isStep_208 : decode cL_isStep 208 = .ok (.goto 4, 3) := by decide +kernel
theorem dL_isStep_211 : decode cL_isStep 211 = .ok (.iconst 0, 1) := by decide +kernel
theorem dL_isStep_212 : decode cL_isStep 212 = .ok (.ireturn, 1) := by decide +kernel
theorem dL_isStep_213 : decode cL_isStep 213 = .ok (.iconst 1, 1) := by decide +kernel
theorem dL_isStep_214 : decode cL_isStep 214 = .ok (.iload_n 3, 1) := by decide +kernel
theorem dL_isStep_215 : decode cL_isStep 215 = .ok (.iload 4, 2) := by decide +kernel
theorem dL_isStep_217 : decode cL_isStep 217 = .ok (.iconst 2, 1) := by decide +kernel
theorem dL_isStep_218 : decode cL_isStep 218 = .ok (.invokestatic 19, 3) := by decide +kernel
theorem dL_isStep_221 : decode cL_isStep 221 = .ok (.ifCond .ne 8, 3) := by decide +kernel
theorem dL_isStep_224 : decode cL_isStep 224 = .ok (.bipush 32, 2) := by decide +kernel
theorem dL_isStep_226 : decode cL_isStep 226 = .ok (.goto 4, 3) := by decide +kernel
theorem dL_isStep_229 : decode cL_isStep 229 = .ok (.iconst 5, 1) := by decide +kernel
theorem dL_isStep_230 : decode cL_isStep 230 = .ok (.invokestatic 19, 3) := by decide +kernel
theorem dL_isStep_233 : decode cL_isStep 233 = .ok (.iadd, 1) := by decide +kernel
theorem dL_isStep_234 : decode cL_isStep 234 = .ok (.istore 7, 2) := by decide +kernel
theorem dL_isStep_236 : decode cL_isStep 236 = .ok (.iconst 1, 1) := by decide +kernel
theorem dL_isStep_237 : decode cL_isStep 237 = .ok (.iload_n 3, 1) := by decide +kernel
theorem dL_isStep_238 : decode cL_isStep 238 = .ok (.bipush 6, 2) := by decide +kernel
theorem dL_isStep_240 : decode cL_isStep 240 = .ok (.ishr, 1) := by decide +kernel
theorem dL_isStep_241 : decode cL_isStep 241 = .ok (.iload 4, 2) := by decide +kernel
theorem dL_isStep_243 : decode cL_isStep 243 = .ok (.iconst 3, 1) := by decide +kernel
theorem dL_isStep_244 : decode cL_isStep 244 = .ok (.ishr, 1) := by decide +kernel
theorem dL_isStep_245 : decode cL_isStep 245 = .ok (.iconst 2, 1) := by decide +kernel
theorem dL_isStep_246 : decode cL_isStep 246 = .ok (.invokestatic 19, 3) := by decide +kernel
theorem dL_isStep_249 : decode cL_isStep 249 = .ok (.ifCond .ne 8, 3) := by decide +kernel
theorem dL_isStep_252 : decode cL_isStep 252 = .ok (.bipush 99, 2) := by decide +kernel
theorem dL_isStep_254 : decode cL_isStep 254 = .ok (.goto 5, 3) := by decide +kernel
theorem dL_isStep_257 : decode cL_isStep 257 = .ok (.bipush 9, 2) := by decide +kernel
theorem dL_isStep_259 : decode cL_isStep 259 = .ok (.invokestatic 19, 3) := by decide +kernel
theorem dL_isStep_262 : decode cL_isStep 262 = .ok (.iadd, 1) := by decide +kernel
theorem dL_isStep_263 : decode cL_isStep 263 = .ok (.istore 8, 2) := by decide +kernel
theorem dL_isStep_265 : decode cL_isStep 265 = .ok (.aload_n 0, 1) := by decide +kernel
theorem dL_isStep_266 : decode cL_isStep 266 = .ok (.iload 5, 2) := by decide +kernel
theorem dL_isStep_268 : decode cL_isStep 268 = .ok (.iconst 0, 1) := by decide +kernel
theorem dL_isStep_269 : decode cL_isStep 269 = .ok (.invokevirtual 15, 3) := by decide +kernel
theorem dL_isStep_272 : decode cL_isStep 272 = .ok (.istore 9, 2) := by decide +kernel
theorem dL_isStep_274 : decode cL_isStep 274 = .ok (.aload_n 0, 1) := by decide +kernel
theorem dL_isStep_275 : decode cL_isStep 275 = .ok (.iload 5, 2) := by decide +kernel
theorem dL_isStep_277 : decode cL_isStep 277 = .ok (.iload 7, 2) := by decide +kernel
theorem dL_isStep_279 : decode cL_isStep 279 = .ok (.iload 8, 2) := by decide +kernel
theorem dL_isStep_281 : decode cL_isStep 281 = .ok (.invokevirtual 31, 3) := by decide +kernel
theorem dL_isStep_284 : decode cL_isStep 284 = .ok (.iload 9, 2) := by decide +kernel
theorem dL_isStep_286 : decode cL_isStep 286 = .ok (.if_icmp .ne 119, 3) := by decide +kernel
theorem dL_isStep_289 : decode cL_isStep 289 = .ok (.aload_n 1, 1) := by decide +kernel
theorem dL_isStep_290 : decode cL_isStep 290 = .ok (.invokevirtual 35, 3) := by decide +kernel
theorem dL_isStep_293 : decode cL_isStep 293 = .ok (.ifCond .lt 112, 3) := by decide +kernel
theorem dL_isStep_296 : decode cL_isStep 296 = .ok (.aload_n 1, 1) := by decide +kernel
theorem dL_isStep_297 : decode cL_isStep 297 = .ok (.ldc2_w 39, 3) := by decide +kernel
theorem dL_isStep_300 : decode cL_isStep 300 = .ok (.invokevirtual 9, 3) := by decide +kernel
theorem dL_isStep_303 : decode cL_isStep 303 = .ok (.ifCond .le 102, 3) := by decide +kernel
theorem dL_isStep_306 : decode cL_isStep 306 = .ok (.aload_n 1, 1) := by decide +kernel
theorem dL_isStep_307 : decode cL_isStep 307 = .ok (.bipush 48, 2) := by decide +kernel
theorem dL_isStep_309 : decode cL_isStep 309 = .ok (.iload 5, 2) := by decide +kernel
theorem dL_isStep_311 : decode cL_isStep 311 = .ok (.iadd, 1) := by decide +kernel
theorem dL_isStep_312 : decode cL_isStep 312 = .ok (.i2l, 1) := by decide +kernel
theorem dL_isStep_313 : decode cL_isStep 313 = .ok (.invokevirtual 9, 3) := by decide +kernel
theorem dL_isStep_316 : decode cL_isStep 316 = .ok (.ifCond .le 89, 3) := by decide +kernel
theorem dL_isStep_319 : decode cL_isStep 319 = .ok (.aload_n 1, 1) := by decide +kernel
theorem dL_isStep_320 : decode cL_isStep 320 = .ok (.ldc2_w 41, 3) := by decide +kernel
theorem dL_isStep_323 : decode cL_isStep 323 = .ok (.invokevirtual 9, 3) := by decide +kernel
theorem dL_isStep_326 : decode cL_isStep 326 = .ok (.ifCond .le 79, 3) := by decide +kernel
theorem dL_isStep_329 : decode cL_isStep 329 = .ok (.aload_n 1, 1) := by decide +kernel
theorem dL_isStep_330 : decode cL_isStep 330 = .ok (.iload 7, 2) := by decide +kernel
theorem dL_isStep_332 : decode cL_isStep 332 = .ok (.invokestatic 43, 3) := by decide +kernel
theorem dL_isStep_335 : decode cL_isStep 335 = .ok (.ifCond .eq 70, 3) := by decide +kernel
theorem dL_isStep_338 : decode cL_isStep 338 = .ok (.aload_n 1, 1) := by decide +kernel
theorem dL_isStep_339 : decode cL_isStep 339 = .ok (.ldc2_w 47, 3) := by decide +kernel
theorem dL_isStep_342 : decode cL_isStep 342 = .ok (.invokevirtual 9, 3) := by decide +kernel
theorem dL_isStep_345 : decode cL_isStep 345 = .ok (.ifCond .le 60, 3) := by decide +kernel
theorem dL_isStep_348 : decode cL_isStep 348 = .ok (.aload_n 1, 1) := by decide +kernel
theorem dL_isStep_349 : decode cL_isStep 349 = .ok (.iload 8, 2) := by decide +kernel
theorem dL_isStep_351 : decode cL_isStep 351 = .ok (.invokestatic 43, 3) := by decide +kernel
theorem dL_isStep_354 : decode cL_isStep 354 = .ok (.ifCond .eq 51, 3) := by decide +kernel
theorem dL_isStep_357 : decode cL_isStep 357 = .ok (.aload_n 1, 1) := by decide +kernel
theorem dL_isStep_358 : decode cL_isStep 358 = .ok (.invokevirtual 49, 3) := by decide +kernel
theorem dL_isStep_361 : decode cL_isStep 361 = .ok (.iconst 1, 1) := by decide +kernel
theorem dL_isStep_362 : decode cL_isStep 362 = .ok (.if_icmp .ne 43, 3) := by decide +kernel
theorem dL_isStep_365 : decode cL_isStep 365 = .ok (.aload_n 0, 1) := by decide +kernel
theorem dL_isStep_366 : decode cL_isStep 366 = .ok (.iload 5, 2) := by decide +kernel
theorem dL_isStep_368 : decode cL_isStep 368 = .ok (.iconst 0, 1) := by decide +kernel
theorem dL_isStep_369 : decode cL_isStep 369 = .ok (.invokevirtual 15, 3) := by decide +kernel
theorem dL_isStep_372 : decode cL_isStep 372 = .ok (.iload 7, 2) := by decide +kernel
theorem dL_isStep_374 : decode cL_isStep 374 = .ok (.if_icmp .ne 31, 3) := by decide +kernel
theorem dL_isStep_377 : decode cL_isStep 377 = .ok (.aload_n 0, 1) := by decide +kernel
theorem dL_isStep_378 : decode cL_isStep 378 = .ok (.iload 5, 2) := by decide +kernel
theorem dL_isStep_380 : decode cL_isStep 380 = .ok (.iconst 1, 1) := by decide +kernel
theorem dL_isStep_381 : decode cL_isStep 381 = .ok (.invokevirtual 15, 3) := by decide +kernel
theorem dL_isStep_384 : decode cL_isStep 384 = .ok (.iload 8, 2) := by decide +kernel
theorem dL_isStep_386 : decode cL_isStep 386 = .ok (.if_icmp .ne 19, 3) := by decide +kernel
theorem dL_isStep_389 : decode cL_isStep 389 = .ok (.aload_n 0, 1) := by decide +kernel
theorem dL_isStep_390 : decode cL_isStep 390 = .ok (.iload 5, 2) := by decide +kernel
theorem dL_isStep_392 : decode cL_isStep 392 = .ok (.iconst 2, 1) := by decide +kernel
theorem dL_isStep_393 : decode cL_isStep 393 = .ok (.invokevirtual 15, 3) := by decide +kernel
theorem dL_isStep_396 : decode cL_isStep 396 = .ok (.iload 7, 2) := by decide +kernel
theorem dL_isStep_398 : decode cL_isStep 398 = .ok (.if_icmp .ne 7, 3) := by decide +kernel
theorem dL_isStep_401 : decode cL_isStep 401 = .ok (.iconst 1, 1) := by decide +kernel
theorem dL_isStep_402 : decode cL_isStep 402 = .ok (.goto 4, 3) := by decide +kernel
theorem dL_isStep_405 : decode cL_isStep 405 = .ok (.iconst 0, 1) := by decide +kernel
theorem dL_isStep_406 : decode cL_isStep 406 = .ok (.ireturn, 1) := by decide +kernel
theorem dL_isStep_407 : decode cL_isStep 407 = .ok (.aload_n 0, 1) := by decide +kernel
theorem dL_isStep_408 : decode cL_isStep 408 = .ok (.iload 5, 2) := by decide +kernel
theorem dL_isStep_410 : decode cL_isStep 410 = .ok (.iconst 5, 1) := by decide +kernel
theorem dL_isStep_411 : decode cL_isStep 411 = .ok (.invokevirtual 15, 3) := by decide +kernel
theorem dL_isStep_414 : decode cL_isStep 414 = .ok (.istore 7, 2) := by decide +kernel
theorem dL_isStep_416 : decode cL_isStep 416 = .ok (.aload_n 0, 1) := by decide +kernel
theorem dL_isStep_417 : decode cL_isStep 417 = .ok (.iload 5, 2) := by decide +kernel
theorem dL_isStep_419 : decode cL_isStep 419 = .ok (.invokevirtual 52, 3) := by decide +kernel
theorem dL_isStep_422 : decode cL_isStep 422 = .ok (.iconst 1, 1) := by decide +kernel
theorem dL_isStep_423 : decode cL_isStep 423 = .ok (.iload 7, 2) := by decide +kernel
theorem dL_isStep_425 : decode cL_isStep 425 = .ok (.isub, 1) := by decide +kernel
theorem dL_isStep_426 : decode cL_isStep 426 = .ok (.if_icmp .ne 59, 3) := by decide +kernel
theorem dL_isStep_429 : decode cL_isStep 429 = .ok (.aload_n 1, 1) := by decide +kernel
theorem dL_isStep_430 : decode cL_isStep 430 = .ok (.invokevirtual 35, 3) := by decide +kernel
theorem dL_isStep_433 : decode cL_isStep 433 = .ok (.ifCond .lt 52, 3) := by decide +kernel
theorem dL_isStep_436 : decode cL_isStep 436 = .ok (.aload_n 1, 1) := by decide +kernel
theorem dL_isStep_437 : decode cL_isStep 437 = .ok (.ldc2_w 55, 3) := by decide +kernel
theorem dL_isStep_440 : decode cL_isStep 440 = .ok (.invokevirtual 9, 3) := by decide +kernel
theorem dL_isStep_443 : decode cL_isStep 443 = .ok (.ifCond .le 42, 3) := by decide +kernel
theorem dL_isStep_446 : decode cL_isStep 446 = .ok (.aload_n 1, 1) := by decide +kernel
theorem dL_isStep_447 : decode cL_isStep 447 = .ok (.bipush 48, 2) := by decide +kernel
theorem dL_isStep_449 : decode cL_isStep 449 = .ok (.iload 5, 2) := by decide +kernel
theorem dL_isStep_451 : decode cL_isStep 451 = .ok (.iadd, 1) := by decide +kernel
theorem dL_isStep_452 : decode cL_isStep 452 = .ok (.i2l, 1) := by decide +kernel
theorem dL_isStep_453 : decode cL_isStep 453 = .ok (.invokevirtual 9, 3) := by decide +kernel
theorem dL_isStep_456 : decode cL_isStep 456 = .ok (.ifCond .le 29, 3) := by decide +kernel
theorem dL_isStep_459 : decode cL_isStep 459 = .ok (.aload_n 1, 1) := by decide +kernel
theorem dL_isStep_460 : decode cL_isStep 460 = .ok (.invokevirtual 49, 3) := by decide +kernel
theorem dL_isStep_463 : decode cL_isStep 463 = .ok (.iconst 1, 1) := by decide +kernel
theorem dL_isStep_464 : decode cL_isStep 464 = .ok (.if_icmp .ne 21, 3) := by decide +kernel
theorem dL_isStep_467 : decode cL_isStep 467 = .ok (.aload_n 0, 1) := by decide +kernel
theorem dL_isStep_468 : decode cL_isStep 468 = .ok (.iload 5, 2) := by decide +kernel
theorem dL_isStep_470 : decode cL_isStep 470 = .ok (.iconst 5, 1) := by decide +kernel
theorem dL_isStep_471 : decode cL_isStep 471 = .ok (.invokevirtual 15, 3) := by decide +kernel
theorem dL_isStep_474 : decode cL_isStep 474 = .ok (.iconst 1, 1) := by decide +kernel
theorem dL_isStep_475 : decode cL_isStep 475 = .ok (.iload 7, 2) := by decide +kernel
theorem dL_isStep_477 : decode cL_isStep 477 = .ok (.isub, 1) := by decide +kernel
theorem dL_isStep_478 : decode cL_isStep 478 = .ok (.if_icmp .ne 7, 3) := by decide +kernel
theorem dL_isStep_481 : decode cL_isStep 481 = .ok (.iconst 1, 1) := by decide +kernel
theorem dL_isStep_482 : decode cL_isStep 482 = .ok (.goto 4, 3) := by decide +kernel
theorem dL_isStep_485 : decode cL_isStep 485 = .ok (.iconst 0, 1) := by decide +kernel
theorem dL_isStep_486 : decode cL_isStep 486 = .ok (.ireturn, 1) := by decide +kernel
theorem dL_isStep_487 : decode cL_isStep 487 = .ok (.aload_n 0, 1) := by decide +kernel
theorem dL_isStep_488 : decode cL_isStep 488 = .ok (.iload 5, 2) := by decide +kernel
theorem dL_isStep_490 : decode cL_isStep 490 = .ok (.iconst 4, 1) := by decide +kernel
theorem dL_isStep_491 : decode cL_isStep 491 = .ok (.invokevirtual 15, 3) := by decide +kernel
theorem dL_isStep_494 : decode cL_isStep 494 = .ok (.ifCond .ne 17, 3) := by decide +kernel
theorem dL_isStep_497 : decode cL_isStep 497 = .ok (.aload_n 0, 1) := by decide +kernel
theorem dL_isStep_498 : decode cL_isStep 498 = .ok (.iload 5, 2) := by decide +kernel
theorem dL_isStep_500 : decode cL_isStep 500 = .ok (.iconst 3, 1) := by decide +kernel
theorem dL_isStep_501 : decode cL_isStep 501 = .ok (.invokevirtual 15, 3) := by decide +kernel
theorem dL_isStep_504 : decode cL_isStep 504 = .ok (.ifCond .le 7, 3) := by decide +kernel
theorem dL_isStep_507 : decode cL_isStep 507 = .ok (.iconst 1, 1) := by decide +kernel
theorem dL_isStep_508 : decode cL_isStep 508 = .ok (.goto 4, 3) := by decide +kernel
theorem dL_isStep_511 : decode cL_isStep 511 = .ok (.iconst 0, 1) := by decide +kernel
theorem dL_isStep_512 : decode cL_isStep 512 = .ok (.istore 7, 2) := by decide +kernel
theorem dL_isStep_514 : decode cL_isStep 514 = .ok (.aload_n 0, 1) := by decide +kernel
theorem dL_isStep_515 : decode cL_isStep 515 = .ok (.iload 5, 2) := by decide +kernel
theorem dL_isStep_517 : decode cL_isStep 517 = .ok (.bipush 6, 2) := by decide +kernel
theorem dL_isStep_519 : decode cL_isStep 519 = .ok (.invokevirtual 15, 3) := by decide +kernel
theorem dL_isStep_522 : decode cL_isStep 522 = .ok (.istore 8, 2) := by decide +kernel
theorem dL_isStep_524 : decode cL_isStep 524 = .ok (.aload_n 0, 1) := by decide +kernel
theorem dL_isStep_525 : decode cL_isStep 525 = .ok (.iconst 4, 1) := by decide +kernel
theorem dL_isStep_526 : decode cL_isStep 526 = .ok (.invokestatic 57, 3) := by decide +kernel
theorem dL_isStep_529 : decode cL_isStep 529 = .ok (.istore 9, 2) := by decide +kernel
theorem dL_isStep_531 : decode cL_isStep 531 = .ok (.aload_n 0, 1) := by decide +kernel
theorem dL_isStep_532 : decode cL_isStep 532 = .ok (.iload 5, 2) := by decide +kernel
theorem dL_isStep_534 : decode cL_isStep 534 = .ok (.invokevirtual 61, 3) := by decide +kernel
theorem dL_isStep_537 : decode cL_isStep 537 = .ok (.istore 10, 2) := by decide +kernel
theorem dL_isStep_539 : decode cL_isStep 539 = .ok (.iload 10, 2) := by decide +kernel
theorem dL_isStep_541 : decode cL_isStep 541 = .ok (.aload_n 1, 1) := by decide +kernel
theorem dL_isStep_542 : decode cL_isStep 542 = .ok (.iload 5, 2) := by decide +kernel
theorem dL_isStep_544 : decode cL_isStep 544 = .ok (.invokevirtual 61, 3) := by decide +kernel
theorem dL_isStep_547 : decode cL_isStep 547 = .ok (.if_icmp .ne 74, 3) := by decide +kernel
theorem dL_isStep_550 : decode cL_isStep 550 = .ok (.iload 10, 2) := by decide +kernel
theorem dL_isStep_552 : decode cL_isStep 552 = .ok (.iload 7, 2) := by decide +kernel
theorem dL_isStep_554 : decode cL_isStep 554 = .ok (.ifCond .eq 8, 3) := by decide +kernel
theorem dL_isStep_557 : decode cL_isStep 557 = .ok (.iload 9, 2) := by decide +kernel
theorem dL_isStep_559 : decode cL_isStep 559 = .ok (.goto 5, 3) := by decide +kernel
theorem dL_isStep_562 : decode cL_isStep 562 = .ok (.bipush (-5), 2) := by decide +kernel
theorem dL_isStep_564 : decode cL_isStep 564 = .ok (.if_icmp .ne 57, 3) := by decide +kernel
theorem dL_isStep_567 : decode cL_isStep 567 = .ok (.aload_n 0, 1) := by decide +kernel
theorem dL_isStep_568 : decode cL_isStep 568 = .ok (.iload 5, 2) := by decide +kernel
theorem dL_isStep_570 : decode cL_isStep 570 = .ok (.bipush 6, 2) := by decide +kernel
theorem dL_isStep_572 : decode cL_isStep 572 = .ok (.invokevirtual 15, 3) := by decide +kernel
theorem dL_isStep_575 : decode cL_isStep 575 = .ok (.iload 8, 2) := by decide +kernel
theorem dL_isStep_577 : decode cL_isStep 577 = .ok (.iload 7, 2) := by decide +kernel
theorem dL_isStep_579 : decode cL_isStep 579 = .ok (.ifCond .eq 7, 3) := by decide +kernel
theorem dL_isStep_582 : decode cL_isStep 582 = .ok (.iconst 1, 1) := by decide +kernel
theorem dL_isStep_583 : decode cL_isStep 583 = .ok (.goto 4, 3) := by decide +kernel
theorem dL_isStep_586 : decode cL_isStep 586 = .ok (.iconst 0, 1) := by decide +kernel
theorem dL_isStep_587 : decode cL_isStep 587 = .ok (.iadd, 1) := by decide +kernel
theorem dL_isStep_588 : decode cL_isStep 588 = .ok (.if_icmp .ne 33, 3) := by decide +kernel
theorem dL_isStep_591 : decode cL_isStep 591 = .ok (.iload 7, 2) := by decide +kernel
theorem dL_isStep_593 : decode cL_isStep 593 = .ok (.ifCond .eq 24, 3) := by decide +kernel
theorem dL_isStep_596 : decode cL_isStep 596 = .ok (.aload_n 0, 1) := by decide +kernel
theorem dL_isStep_597 : decode cL_isStep 597 = .ok (.iload 9, 2) := by decide +kernel
theorem dL_isStep_599 : decode cL_isStep 599 = .ok (.invokevirtual 64, 3) := by decide +kernel
theorem dL_isStep_602 : decode cL_isStep 602 = .ok (.iload 5, 2) := by decide +kernel
theorem dL_isStep_604 : decode cL_isStep 604 = .ok (.if_icmp .ne 17, 3) := by decide +kernel
theorem dL_isStep_607 : decode cL_isStep 607 = .ok (.aload_n 0, 1) := by decide +kernel
theorem dL_isStep_608 : decode cL_isStep 608 = .ok (.iload 5, 2) := by decide +kernel
theorem dL_isStep_610 : decode cL_isStep 610 = .ok (.invokevirtual 67, 3) := by decide +kernel
theorem dL_isStep_613 : decode cL_isStep 613 = .ok (.iconst 1, 1) := by decide +kernel
theorem dL_isStep_614 : decode cL_isStep 614 = .ok (.if_icmp .ne 7, 3) := by decide +kernel
theorem dL_isStep_617 : decode cL_isStep 617 = .ok (.iconst 1, 1) := by decide +kernel
theorem dL_isStep_618 : decode cL_isStep 618 = .ok (.goto 4, 3) := by decide +kernel
theorem dL_isStep_621 : decode cL_isStep 621 = .ok (.iconst 0, 1) := by decide +kernel
theorem dL_isStep_622 : decode cL_isStep 622 = .ok (.ireturn, 1) := by decide +kernel
theorem dL_isStep_623 : decode cL_isStep 623 = .ok (.iconst 1, 1) := by decide +kernel
theorem dL_isStep_624 : decode cL_isStep 624 = .ok (.iload_n 3, 1) := by decide +kernel
theorem dL_isStep_625 : decode cL_isStep 625 = .ok (.iload 4, 2) := by decide +kernel
theorem dL_isStep_627 : decode cL_isStep 627 = .ok (.iconst 3, 1) := by decide +kernel
theorem dL_isStep_628 : decode cL_isStep 628 = .ok (.ishr, 1) := by decide +kernel
theorem dL_isStep_629 : decode cL_isStep 629 = .ok (.iconst 4, 1) := by decide +kernel
theorem dL_isStep_630 : decode cL_isStep 630 = .ok (.invokestatic 19, 3) := by decide +kernel
theorem dL_isStep_633 : decode cL_isStep 633 = .ok (.ifCond .ne 8, 3) := by decide +kernel
theorem dL_isStep_636 : decode cL_isStep 636 = .ok (.bipush 99, 2) := by decide +kernel
theorem dL_isStep_638 : decode cL_isStep 638 = .ok (.goto 4, 3) := by decide +kernel
theorem dL_isStep_641 : decode cL_isStep 641 = .ok (.iconst 4, 1) := by decide +kernel
theorem dL_isStep_642 : decode cL_isStep 642 = .ok (.invokestatic 19, 3) := by decide +kernel
theorem dL_isStep_645 : decode cL_isStep 645 = .ok (.iadd, 1) := by decide +kernel
theorem dL_isStep_646 : decode cL_isStep 646 = .ok (.istore 7, 2) := by decide +kernel
theorem dL_isStep_648 : decode cL_isStep 648 = .ok (.aload_n 0, 1) := by decide +kernel
theorem dL_isStep_649 : decode cL_isStep 649 = .ok (.iconst 0, 1) := by decide +kernel
theorem dL_isStep_650 : decode cL_isStep 650 = .ok (.invokevirtual 24, 3) := by decide +kernel
theorem dL_isStep_653 : decode cL_isStep 653 = .ok (.istore 8, 2) := by decide +kernel
theorem dL_isStep_655 : decode cL_isStep 655 = .ok (.aload_n 0, 1) := by decide +kernel
theorem dL_isStep_656 : decode cL_isStep 656 = .ok (.iconst 3, 1) := by decide +kernel
theorem dL_isStep_657 : decode cL_isStep 657 = .ok (.invokevirtual 24, 3) := by decide +kernel
theorem dL_isStep_660 : decode cL_isStep 660 = .ok (.istore 9, 2) := by decide +kernel
theorem dL_isStep_662 : decode cL_isStep 662 = .ok (.aload_n 0, 1) := by decide +kernel
theorem dL_isStep_663 : decode cL_isStep 663 = .ok (.iload 7, 2) := by decide +kernel
theorem dL_isStep_665 : decode cL_isStep 665 = .ok (.invokevirtual 70, 3) := by decide +kernel
theorem dL_isStep_668 : decode cL_isStep 668 = .ok (.istore 10, 2) := by decide +kernel
theorem dL_isStep_670 : decode cL_isStep 670 = .ok (.iconst 0, 1) := by decide +kernel
theorem dL_isStep_671 : decode cL_isStep 671 = .ok (.istore 11, 2) := by decide +kernel
theorem dL_isStep_673 : decode cL_isStep 673 = .ok (.iconst 0, 1) := by decide +kernel
theorem dL_isStep_674 : decode cL_isStep 674 = .ok (.istore 12, 2) := by decide +kernel
theorem dL_isStep_676 : decode cL_isStep 676 = .ok (.iload 12, 2) := by decide +kernel
theorem dL_isStep_678 : decode cL_isStep 678 = .ok (.iload 7, 2) := by decide +kernel
theorem dL_isStep_680 : decode cL_isStep 680 = .ok (.if_icmp .ge 23, 3) := by decide +kernel
theorem dL_isStep_683 : decode cL_isStep 683 = .ok (.aload_n 1, 1) := by decide +kernel
theorem dL_isStep_684 : decode cL_isStep 684 = .ok (.iconst 1, 1) := by decide +kernel
theorem dL_isStep_685 : decode cL_isStep 685 = .ok (.invokevirtual 70, 3) := by decide +kernel
theorem dL_isStep_688 : decode cL_isStep 688 = .ok (.istore 13, 2) := by decide +kernel
theorem dL_isStep_690 : decode cL_isStep 690 = .ok (.iload 11, 2) := by decide +kernel
theorem dL_isStep_692 : decode cL_isStep 692 = .ok (.iload 13, 2) := by decide +kernel
theorem dL_isStep_694 : decode cL_isStep 694 = .ok (.iadd, 1) := by decide +kernel
theorem dL_isStep_695 : decode cL_isStep 695 = .ok (.istore 11, 2) := by decide +kernel
theorem dL_isStep_697 : decode cL_isStep 697 = .ok (.iinc 12 1, 3) := by decide +kernel
theorem dL_isStep_700 : decode cL_isStep 700 = .ok (.goto (-24), 3) := by decide +kernel
theorem dL_isStep_703 : decode cL_isStep 703 = .ok (.iload 10, 2) := by decide +kernel
theorem dL_isStep_705 : decode cL_isStep 705 = .ok (.iload 11, 2) := by decide +kernel
theorem dL_isStep_707 : decode cL_isStep 707 = .ok (.if_icmp .ne 47, 3) := by decide +kernel
theorem dL_isStep_710 : decode cL_isStep 710 = .ok (.aload_n 0, 1) := by decide +kernel
theorem dL_isStep_711 : decode cL_isStep 711 = .ok (.iconst 0, 1) := by decide +kernel
theorem dL_isStep_712 : decode cL_isStep 712 = .ok (.invokevirtual 24, 3) := by decide +kernel
theorem dL_isStep_715 : decode cL_isStep 715 = .ok (.iload 8, 2) := by decide +kernel
theorem dL_isStep_717 : decode cL_isStep 717 = .ok (.iload 7, 2) := by decide +kernel
theorem dL_isStep_719 : decode cL_isStep 719 = .ok (.iadd, 1) := by decide +kernel
theorem dL_isStep_720 : decode cL_isStep 720 = .ok (.if_icmp .ne 34, 3) := by decide +kernel
theorem dL_isStep_723 : decode cL_isStep 723 = .ok (.aload_n 0, 1) := by decide +kernel
theorem dL_isStep_724 : decode cL_isStep 724 = .ok (.iconst 3, 1) := by decide +kernel
theorem dL_isStep_725 : decode cL_isStep 725 = .ok (.invokevirtual 24, 3) := by decide +kernel
theorem dL_isStep_728 : decode cL_isStep 728 = .ok (.iload 9, 2) := by decide +kernel
theorem dL_isStep_730 : decode cL_isStep 730 = .ok (.iload 10, 2) := by decide +kernel
theorem dL_isStep_732 : decode cL_isStep 732 = .ok (.iadd, 1) := by decide +kernel
theorem dL_isStep_733 : decode cL_isStep 733 = .ok (.if_icmp .ne 21, 3) := by decide +kernel
theorem dL_isStep_736 : decode cL_isStep 736 = .ok (.iload 10, 2) := by decide +kernel
theorem dL_isStep_738 : decode cL_isStep 738 = .ok (.iload 7, 2) := by decide +kernel
theorem dL_isStep_740 : decode cL_isStep 740 = .ok (.aload_n 0, 1) := by decide +kernel
theorem dL_isStep_741 : decode cL_isStep 741 = .ok (.bipush 8, 2) := by decide +kernel
theorem dL_isStep_743 : decode cL_isStep 743 = .ok (.invokevirtual 24, 3) := by decide +kernel
theorem dL_isStep_746 : decode cL_isStep 746 = .ok (.imul, 1) := by decide +kernel
theorem dL_isStep_747 : decode cL_isStep 747 = .ok (.if_icmp .gt 7, 3) := by decide +kernel
theorem dL_isStep_750 : decode cL_isStep 750 = .ok (.iconst 1, 1) := by decide +kernel
theorem dL_isStep_751 : decode cL_isStep 751 = .ok (.goto 4, 3) := by decide +kernel
theorem dL_isStep_754 : decode cL_isStep 754 = .ok (.iconst 0, 1) := by decide +kernel
theorem dL_isStep_755 : decode cL_isStep 755 = .ok (.ireturn, 1) := by decide +kernel
theorem dL_isStep_756 : decode cL_isStep 756 = .ok (.iconst 1, 1) := by decide +kernel
theorem dL_isStep_757 : decode cL_isStep 757 = .ok (.iload_n 3, 1) := by decide +kernel
theorem dL_isStep_758 : decode cL_isStep 758 = .ok (.bipush 99, 2) := by decide +kernel
theorem dL_isStep_760 : decode cL_isStep 760 = .ok (.invokestatic 19, 3) := by decide +kernel
theorem dL_isStep_763 : decode cL_isStep 763 = .ok (.iadd, 1) := by decide +kernel
theorem dL_isStep_764 : decode cL_isStep 764 = .ok (.istore 7, 2) := by decide +kernel
theorem dL_isStep_766 : decode cL_isStep 766 = .ok (.aload_n 0, 1) := by decide +kernel
theorem dL_isStep_767 : decode cL_isStep 767 = .ok (.iload 7, 2) := by decide +kernel
theorem dL_isStep_769 : decode cL_isStep 769 = .ok (.iconst 0, 1) := by decide +kernel
theorem dL_isStep_770 : decode cL_isStep 770 = .ok (.invokevirtual 73, 3) := by decide +kernel
theorem dL_isStep_773 : decode cL_isStep 773 = .ok (.istore 8, 2) := by decide +kernel
theorem dL_isStep_775 : decode cL_isStep 775 = .ok (.aload_n 0, 1) := by decide +kernel
theorem dL_isStep_776 : decode cL_isStep 776 = .ok (.iload 7, 2) := by decide +kernel
theorem dL_isStep_778 : decode cL_isStep 778 = .ok (.iconst 1, 1) := by decide +kernel
theorem dL_isStep_779 : decode cL_isStep 779 = .ok (.invokevirtual 73, 3) := by decide +kernel
theorem dL_isStep_782 : decode cL_isStep 782 = .ok (.aload_n 0, 1) := by decide +kernel
theorem dL_isStep_783 : decode cL_isStep 783 = .ok (.iconst 5, 1) := by decide +kernel
theorem dL_isStep_784 : decode cL_isStep 784 = .ok (.invokevirtual 24, 3) := by decide +kernel
theorem dL_isStep_787 : decode cL_isStep 787 = .ok (.iadd, 1) := by decide +kernel
theorem dL_isStep_788 : decode cL_isStep 788 = .ok (.istore 9, 2) := by decide +kernel
theorem dL_isStep_790 : decode cL_isStep 790 = .ok (.aload_n 0, 1) := by decide +kernel
theorem dL_isStep_791 : decode cL_isStep 791 = .ok (.iload 7, 2) := by decide +kernel
theorem dL_isStep_793 : decode cL_isStep 793 = .ok (.invokevirtual 70, 3) := by decide +kernel
theorem dL_isStep_796 : decode cL_isStep 796 = .ok (.iload 8, 2) := by decide +kernel
theorem dL_isStep_798 : decode cL_isStep 798 = .ok (.if_icmp .ne 51, 3) := by decide +kernel
theorem dL_isStep_801 : decode cL_isStep 801 = .ok (.aload_n 1, 1) := by decide +kernel
theorem dL_isStep_802 : decode cL_isStep 802 = .ok (.invokevirtual 35, 3) := by decide +kernel
theorem dL_isStep_805 : decode cL_isStep 805 = .ok (.ifCond .lt 44, 3) := by decide +kernel
theorem dL_isStep_808 : decode cL_isStep 808 = .ok (.aload_n 1, 1) := by decide +kernel
theorem dL_isStep_809 : decode cL_isStep 809 = .ok (.ldc2_w 76, 3) := by decide +kernel
theorem dL_isStep_812 : decode cL_isStep 812 = .ok (.invokevirtual 9, 3) := by decide +kernel
theorem dL_isStep_815 : decode cL_isStep 815 = .ok (.ifCond .le 34, 3) := by decide +kernel
theorem dL_isStep_818 : decode cL_isStep 818 = .ok (.aload_n 1, 1) := by decide +kernel
theorem dL_isStep_819 : decode cL_isStep 819 = .ok (.iload 7, 2) := by decide +kernel
theorem dL_isStep_821 : decode cL_isStep 821 = .ok (.invokestatic 43, 3) := by decide +kernel
theorem dL_isStep_824 : decode cL_isStep 824 = .ok (.ifCond .eq 25, 3) := by decide +kernel
theorem dL_isStep_827 : decode cL_isStep 827 = .ok (.aload_n 1, 1) := by decide +kernel
theorem dL_isStep_828 : decode cL_isStep 828 = .ok (.invokevirtual 49, 3) := by decide +kernel
theorem dL_isStep_831 : decode cL_isStep 831 = .ok (.iconst 1, 1) := by decide +kernel
theorem dL_isStep_832 : decode cL_isStep 832 = .ok (.if_icmp .ne 17, 3) := by decide +kernel
theorem dL_isStep_835 : decode cL_isStep 835 = .ok (.aload_n 0, 1) := by decide +kernel
theorem dL_isStep_836 : decode cL_isStep 836 = .ok (.iconst 5, 1) := by decide +kernel
theorem dL_isStep_837 : decode cL_isStep 837 = .ok (.invokevirtual 24, 3) := by decide +kernel
theorem dL_isStep_840 : decode cL_isStep 840 = .ok (.iload 9, 2) := by decide +kernel
theorem dL_isStep_842 : decode cL_isStep 842 = .ok (.if_icmp .ne 7, 3) := by decide +kernel
theorem dL_isStep_845 : decode cL_isStep 845 = .ok (.iconst 1, 1) := by decide +kernel
theorem dL_isStep_846 : decode cL_isStep 846 = .ok (.goto 4, 3) := by decide +kernel
theorem dL_isStep_849 : decode cL_isStep 849 = .ok (.iconst 0, 1) := by decide +kernel
theorem dL_isStep_850 : decode cL_isStep 850 = .ok (.ireturn, 1) := by decide +kernel
theorem dL_isStep_851 : decode cL_isStep 851 = .ok (.iload_n 3, 1) := by decide +kernel
theorem dL_isStep_852 : decode cL_isStep 852 = .ok (.iconst 2, 1) := by decide +kernel
theorem dL_isStep_853 : decode cL_isStep 853 = .ok (.invokestatic 19, 3) := by decide +kernel
theorem dL_isStep_856 : decode cL_isStep 856 = .ok (.ifCond .ne 34, 3) := by decide +kernel
theorem dL_isStep_859 : decode cL_isStep 859 = .ok (.aload_n 0, 1) := by decide +kernel
theorem dL_isStep_860 : decode cL_isStep 860 = .ok (.iload 4, 2) := by decide +kernel
theorem dL_isStep_862 : decode cL_isStep 862 = .ok (.iconst 2, 1) := by decide +kernel
theorem dL_isStep_863 : decode cL_isStep 863 = .ok (.invokestatic 19, 3) := by decide +kernel
theorem dL_isStep_866 : decode cL_isStep 866 = .ok (.invokevirtual 78, 3) := by decide +kernel
theorem dL_isStep_869 : decode cL_isStep 869 = .ok (.aload_n 1, 1) := by decide +kernel
theorem dL_isStep_870 : decode cL_isStep 870 = .ok (.iload 4, 2) := by decide +kernel
theorem dL_isStep_872 : decode cL_isStep 872 = .ok (.iconst 2, 1) := by decide +kernel
theorem dL_isStep_873 : decode cL_isStep 873 = .ok (.invokestatic 19, 3) := by decide +kernel
theorem dL_isStep_876 : decode cL_isStep 876 = .ok (.invokevirtual 78, 3) := by decide +kernel
theorem dL_isStep_879 : decode cL_isStep 879 = .ok (.if_icmp .ne 7, 3) := by decide +kernel
theorem dL_isStep_882 : decode cL_isStep 882 = .ok (.iconst 1, 1) := by decide +kernel
theorem dL_isStep_883 : decode cL_isStep 883 = .ok (.goto 35, 3) := by decide +kernel
theorem dL_isStep_886 : decode cL_isStep 886 = .ok (.iconst 0, 1) := by decide +kernel
theorem dL_isStep_887 : decode cL_isStep 887 = .ok (.goto 31, 3) := by decide +kernel
theorem dL_isStep_890 : decode cL_isStep 890 = .ok (.aload_n 0, 1) := by decide +kernel
theorem dL_isStep_891 : decode cL_isStep 891 = .ok (.iload 4, 2) := by decide +kernel
theorem dL_isStep_893 : decode cL_isStep 893 = .ok (.iconst 2, 1) := by decide +kernel
theorem dL_isStep_894 : decode cL_isStep 894 = .ok (.invokestatic 19, 3) := by decide +kernel
theorem dL_isStep_897 : decode cL_isStep 897 = .ok (.invokevirtual 81, 3) := by decide +kernel
theorem dL_isStep_900 : decode cL_isStep 900 = .ok (.aload_n 1, 1) := by decide +kernel
theorem dL_isStep_901 : decode cL_isStep 901 = .ok (.iload 4, 2) := by decide +kernel
theorem dL_isStep_903 : decode cL_isStep 903 = .ok (.iconst 2, 1) := by decide +kernel
theorem dL_isStep_904 : decode cL_isStep 904 = .ok (.invokestatic 19, 3) := by decide +kernel
theorem dL_isStep_907 : decode cL_isStep 907 = .ok (.invokevirtual 81, 3) := by decide +kernel
theorem dL_isStep_910 : decode cL_isStep 910 = .ok (.if_icmp .ne 7, 3) := by decide +kernel
theorem dL_isStep_913 : decode cL_isStep 913 = .ok (.iconst 1, 1) := by decide +kernel
theorem dL_isStep_914 : decode cL_isStep 914 = .ok (.goto 4, 3) := by decide +kernel
theorem dL_isStep_917 : decode cL_isStep 917 = .ok (.iconst 0, 1) := by decide +kernel
theorem dL_isStep_918 : decode cL_isStep 918 = .ok (.ireturn, 1) := by decide +kernel
theorem dL_isStep_919 : decode cL_isStep 919 = .ok (.iload_n 3, 1) := by decide +kernel
theorem dL_isStep_920 : decode cL_isStep 920 = .ok (.bipush 100, 2) := by decide +kernel
theorem dL_isStep_922 : decode cL_isStep 922 = .ok (.invokestatic 19, 3) := by decide +kernel
theorem dL_isStep_925 : decode cL_isStep 925 = .ok (.istore 7, 2) := by decide +kernel
theorem dL_isStep_927 : decode cL_isStep 927 = .ok (.iload 4, 2) := by decide +kernel
theorem dL_isStep_929 : decode cL_isStep 929 = .ok (.bipush 6, 2) := by decide +kernel
theorem dL_isStep_931 : decode cL_isStep 931 = .ok (.invokestatic 19, 3) := by decide +kernel
theorem dL_isStep_934 : decode cL_isStep 934 = .ok (.istore 8, 2) := by decide +kernel
theorem dL_isStep_936 : decode cL_isStep 936 = .ok (.aload_n 0, 1) := by decide +kernel
theorem dL_isStep_937 : decode cL_isStep 937 = .ok (.bipush 7, 2) := by decide +kernel
theorem dL_isStep_939 : decode cL_isStep 939 = .ok (.invokevirtual 24, 3) := by decide +kernel
theorem dL_isStep_942 : decode cL_isStep 942 = .ok (.aload_n 0, 1) := by decide +kernel
theorem dL_isStep_943 : decode cL_isStep 943 = .ok (.iload 7, 2) := by decide +kernel
theorem dL_isStep_945 : decode cL_isStep 945 = .ok (.iconst 3, 1) := by decide +kernel
theorem dL_isStep_946 : decode cL_isStep 946 = .ok (.irem, 1) := by decide +kernel
theorem dL_isStep_947 : decode cL_isStep 947 = .ok (.iconst 3, 1) := by decide +kernel
theorem dL_isStep_948 : decode cL_isStep 948 = .ok (.invokevirtual 15, 3) := by decide +kernel
theorem dL_isStep_951 : decode cL_isStep 951 = .ok (.isub, 1) := by decide +kernel
theorem dL_isStep_952 : decode cL_isStep 952 = .ok (.istore 9, 2) := by decide +kernel
theorem dL_isStep_954 : decode cL_isStep 954 = .ok (.aload_n 0, 1) := by decide +kernel
theorem dL_isStep_955 : decode cL_isStep 955 = .ok (.iconst 4, 1) := by decide +kernel
theorem dL_isStep_956 : decode cL_isStep 956 = .ok (.invokevirtual 24, 3) := by decide +kernel
theorem dL_isStep_959 : decode cL_isStep 959 = .ok (.istore 10, 2) := by decide +kernel
theorem dL_isStep_961 : decode cL_isStep 961 = .ok (.iconst 1, 1) := by decide +kernel
theorem dL_isStep_962 : decode cL_isStep 962 = .ok (.istore 11, 2) := by decide +kernel
theorem dL_isStep_964 : decode cL_isStep 964 = .ok (.iconst 0, 1) := by decide +kernel
theorem dL_isStep_965 : decode cL_isStep 965 = .ok (.istore 12, 2) := by decide +kernel
theorem dL_isStep_967 : decode cL_isStep 967 = .ok (.iload 12, 2) := by decide +kernel
theorem dL_isStep_969 : decode cL_isStep 969 = .ok (.iload 8, 2) := by decide +kernel
theorem dL_isStep_971 : decode cL_isStep 971 = .ok (.if_icmp .ge 51, 3) := by decide +kernel
theorem dL_isStep_974 : decode cL_isStep 974 = .ok (.iload 11, 2) := by decide +kernel
theorem dL_isStep_976 : decode cL_isStep 976 = .ok (.ifCond .eq 37, 3) := by decide +kernel
theorem dL_isStep_979 : decode cL_isStep 979 = .ok (.aload_n 0, 1) := by decide +kernel
theorem dL_isStep_980 : decode cL_isStep 980 = .ok (.iload 7, 2) := by decide +kernel
theorem dL_isStep_982 : decode cL_isStep 982 = .ok (.invokevirtual 84, 3) := by decide +kernel
theorem dL_isStep_985 : decode cL_isStep 985 = .ok (.iload 6, 2) := by decide +kernel
theorem dL_isStep_987 : decode cL_isStep 987 = .ok (.iload 12, 2) := by decide +kernel
theorem dL_isStep_989 : decode cL_isStep 989 = .ok (.iadd, 1) := by decide +kernel
theorem dL_isStep_990 : decode cL_isStep 990 = .ok (.sipush 400, 3) := by decide +kernel
theorem dL_isStep_993 : decode cL_isStep 993 = .ok (.if_icmp .ge 11, 3) := by decide +kernel
theorem dL_isStep_996 : decode cL_isStep 996 = .ok (.iload 6, 2) := by decide +kernel
theorem dL_isStep_998 : decode cL_isStep 998 = .ok (.iload 12, 2) := by decide +kernel
theorem dL_isStep_1000 : decode cL_isStep 1000 = .ok (.iadd, 1) := by decide +kernel
theorem dL_isStep_1001 : decode cL_isStep 1001 = .ok (.goto 5, 3) := by decide +kernel
theorem dL_isStep_1004 : decode cL_isStep 1004 = .ok (.bipush (-4), 2) := by decide +kernel
theorem dL_isStep_1006 : decode cL_isStep 1006 = .ok (.if_icmp .ne 7, 3) := by decide +kernel
theorem dL_isStep_1009 : decode cL_isStep 1009 = .ok (.iconst 1, 1) := by decide +kernel
theorem dL_isStep_1010 : decode cL_isStep 1010 = .ok (.goto 4, 3) := by decide +kernel
theorem dL_isStep_1013 : decode cL_isStep 1013 = .ok (.iconst 0, 1) := by decide +kernel
theorem dL_isStep_1014 : decode cL_isStep 1014 = .ok (.istore 11, 2) := by decide +kernel
theorem dL_isStep_1016 : decode cL_isStep 1016 = .ok (.iinc 12 1, 3) := by decide +kernel
theorem dL_isStep_1019 : decode cL_isStep 1019 = .ok (.goto (-52), 3) := by decide +kernel
theorem dL_isStep_1022 : decode cL_isStep 1022 = .ok (.iload 6, 2) := by decide +kernel
theorem dL_isStep_1024 : decode cL_isStep 1024 = .ok (.iload 8, 2) := by decide +kernel
theorem dL_isStep_1026 : decode cL_isStep 1026 = .ok (.iadd, 1) := by decide +kernel
theorem dL_isStep_1027 : decode cL_isStep 1027 = .ok (.sipush 400, 3) := by decide +kernel
theorem dL_isStep_1030 : decode cL_isStep 1030 = .ok (.if_icmp .le 12, 3) := by decide +kernel
theorem dL_isStep_1033 : decode cL_isStep 1033 = .ok (.sipush 400, 3) := by decide +kernel
theorem dL_isStep_1036 : decode cL_isStep 1036 = .ok (.iload 6, 2) := by decide +kernel
theorem dL_isStep_1038 : decode cL_isStep 1038 = .ok (.isub, 1) := by decide +kernel
theorem dL_isStep_1039 : decode cL_isStep 1039 = .ok (.goto 5, 3) := by decide +kernel
theorem dL_isStep_1042 : decode cL_isStep 1042 = .ok (.iload 8, 2) := by decide +kernel
theorem dL_isStep_1044 : decode cL_isStep 1044 = .ok (.istore 12, 2) := by decide +kernel
theorem dL_isStep_1046 : decode cL_isStep 1046 = .ok (.iload 9, 2) := by decide +kernel
theorem dL_isStep_1048 : decode cL_isStep 1048 = .ok (.ifCond .ge 7, 3) := by decide +kernel
theorem dL_isStep_1051 : decode cL_isStep 1051 = .ok (.iconst 0, 1) := by decide +kernel
theorem dL_isStep_1052 : decode cL_isStep 1052 = .ok (.goto 5, 3) := by decide +kernel
theorem dL_isStep_1055 : decode cL_isStep 1055 = .ok (.iload 9, 2) := by decide +kernel
theorem dL_isStep_1057 : decode cL_isStep 1057 = .ok (.istore 13, 2) := by decide +kernel
theorem dL_isStep_1059 : decode cL_isStep 1059 = .ok (.iload 11, 2) := by decide +kernel
theorem dL_isStep_1061 : decode cL_isStep 1061 = .ok (.ifCond .eq 88, 3) := by decide +kernel
theorem dL_isStep_1064 : decode cL_isStep 1064 = .ok (.aload_n 1, 1) := by decide +kernel
theorem dL_isStep_1065 : decode cL_isStep 1065 = .ok (.invokevirtual 35, 3) := by decide +kernel
theorem dL_isStep_1068 : decode cL_isStep 1068 = .ok (.ifCond .lt 81, 3) := by decide +kernel
theorem dL_isStep_1071 : decode cL_isStep 1071 = .ok (.aload_n 1, 1) := by decide +kernel
theorem dL_isStep_1072 : decode cL_isStep 1072 = .ok (.ldc2_w 87, 3) := by decide +kernel
theorem dL_isStep_1075 : decode cL_isStep 1075 = .ok (.invokevirtual 9, 3) := by decide +kernel
theorem dL_isStep_1078 : decode cL_isStep 1078 = .ok (.ifCond .le 71, 3) := by decide +kernel
theorem dL_isStep_1081 : decode cL_isStep 1081 = .ok (.aload_n 1, 1) := by decide +kernel
theorem dL_isStep_1082 : decode cL_isStep 1082 = .ok (.iload 7, 2) := by decide +kernel
theorem dL_isStep_1084 : decode cL_isStep 1084 = .ok (.invokestatic 43, 3) := by decide +kernel
theorem dL_isStep_1087 : decode cL_isStep 1087 = .ok (.ifCond .eq 62, 3) := by decide +kernel
theorem dL_isStep_1090 : decode cL_isStep 1090 = .ok (.aload_n 1, 1) := by decide +kernel
theorem dL_isStep_1091 : decode cL_isStep 1091 = .ok (.ldc2_w 89, 3) := by decide +kernel
theorem dL_isStep_1094 : decode cL_isStep 1094 = .ok (.invokevirtual 9, 3) := by decide +kernel
theorem dL_isStep_1097 : decode cL_isStep 1097 = .ok (.ifCond .le 52, 3) := by decide +kernel
theorem dL_isStep_1100 : decode cL_isStep 1100 = .ok (.aload_n 1, 1) := by decide +kernel
theorem dL_isStep_1101 : decode cL_isStep 1101 = .ok (.iload 8, 2) := by decide +kernel
theorem dL_isStep_1103 : decode cL_isStep 1103 = .ok (.invokestatic 43, 3) := by decide +kernel
theorem dL_isStep_1106 : decode cL_isStep 1106 = .ok (.ifCond .eq 43, 3) := by decide +kernel
theorem dL_isStep_1109 : decode cL_isStep 1109 = .ok (.aload_n 1, 1) := by decide +kernel
theorem dL_isStep_1110 : decode cL_isStep 1110 = .ok (.invokevirtual 49, 3) := by decide +kernel
theorem dL_isStep_1113 : decode cL_isStep 1113 = .ok (.iload 12, 2) := by decide +kernel
theorem dL_isStep_1115 : decode cL_isStep 1115 = .ok (.if_icmp .ne 34, 3) := by decide +kernel
theorem dL_isStep_1118 : decode cL_isStep 1118 = .ok (.aload_n 0, 1) := by decide +kernel
theorem dL_isStep_1119 : decode cL_isStep 1119 = .ok (.iconst 4, 1) := by decide +kernel
theorem dL_isStep_1120 : decode cL_isStep 1120 = .ok (.invokevirtual 24, 3) := by decide +kernel
theorem dL_isStep_1123 : decode cL_isStep 1123 = .ok (.iload 10, 2) := by decide +kernel
theorem dL_isStep_1125 : decode cL_isStep 1125 = .ok (.iload 12, 2) := by decide +kernel
theorem dL_isStep_1127 : decode cL_isStep 1127 = .ok (.iload 13, 2) := by decide +kernel
theorem dL_isStep_1129 : decode cL_isStep 1129 = .ok (.if_icmp .le 11, 3) := by decide +kernel
theorem dL_isStep_1132 : decode cL_isStep 1132 = .ok (.iload 12, 2) := by decide +kernel
theorem dL_isStep_1134 : decode cL_isStep 1134 = .ok (.iload 13, 2) := by decide +kernel
theorem dL_isStep_1136 : decode cL_isStep 1136 = .ok (.isub, 1) := by decide +kernel
theorem dL_isStep_1137 : decode cL_isStep 1137 = .ok (.goto 4, 3) := by decide +kernel
theorem dL_isStep_1140 : decode cL_isStep 1140 = .ok (.iconst 0, 1) := by decide +kernel
theorem dL_isStep_1141 : decode cL_isStep 1141 = .ok (.iadd, 1) := by decide +kernel
theorem dL_isStep_1142 : decode cL_isStep 1142 = .ok (.if_icmp .ne 7, 3) := by decide +kernel
theorem dL_isStep_1145 : decode cL_isStep 1145 = .ok (.iconst 1, 1) := by decide +kernel
theorem dL_isStep_1146 : decode cL_isStep 1146 = .ok (.goto 4, 3) := by decide +kernel
theorem dL_isStep_1149 : decode cL_isStep 1149 = .ok (.iconst 0, 1) := by decide +kernel
theorem dL_isStep_1150 : decode cL_isStep 1150 = .ok (.ireturn, 1) := by decide +kernel
theorem dL_areAlike_0 : decode cL_areAlike 0 = .ok (.aload_n 0, 1) := by decide +kernel
theorem dL_areAlike_1 : decode cL_areAlike 1 = .ok (.iconst 0, 1) := by decide +kernel
theorem dL_areAlike_2 : decode cL_areAlike 2 = .ok (.invokevirtual 64, 3) := by decide +kernel
theorem dL_areAlike_5 : decode cL_areAlike 5 = .ok (.aload_n 1, 1) := by decide +kernel
theorem dL_areAlike_6 : decode cL_areAlike 6 = .ok (.iconst 0, 1) := by decide +kernel
theorem dL_areAlike_7 : decode cL_areAlike 7 = .ok (.invokevirtual 64, 3) := by decide +kernel
theorem dL_areAlike_10 : decode cL_areAlike 10 = .ok (.if_icmp .ne 33, 3) := by decide +kernel
theorem dL_areAlike_13 : decode cL_areAlike 13 = .ok (.aload_n 0, 1) := by decide +kernel
theorem dL_areAlike_14 : decode cL_areAlike 14 = .ok (.iconst 1, 1) := by decide +kernel
theorem dL_areAlike_15 : decode cL_areAlike 15 = .ok (.invokevirtual 64, 3) := by decide +kernel
theorem dL_areAlike_18 : decode cL_areAlike 18 = .ok (.aload_n 1, 1) := by decide +kernel
theorem dL_areAlike_19 : decode cL_areAlike 19 = .ok (.iconst 1, 1) := by decide +kernel
theorem dL_areAlike_20 : decode cL_areAlike 20 = .ok (.invokevirtual 64, 3) := by decide +kernel
theorem dL_areAlike_23 : decode cL_areAlike 23 = .ok (.if_icmp .ne 20, 3) := by decide +kernel
theorem dL_areAlike_26 : decode cL_areAlike 26 = .ok (.aload_n 0, 1) := by decide +kernel
theorem dL_areAlike_27 : decode cL_areAlike 27 = .ok (.iconst 2, 1) := by decide +kernel
theorem dL_areAlike_28 : decode cL_areAlike 28 = .ok (.invokevirtual 64, 3) := by decide +kernel
theorem dL_areAlike_31 : decode cL_areAlike 31 = .ok (.aload_n 1, 1) := by decide +kernel
theorem dL_areAlike_32 : decode cL_areAlike 32 = .ok (.iconst 2, 1) := by decide +kernel
theorem dL_areAlike_33 : decode cL_areAlike 33 = .ok (.invokevirtual 64, 3) := by decide +kernel
theorem dL_areAlike_36 : decode cL_areAlike 36 = .ok (.if_icmp .ne 7, 3) := by decide +kernel
theorem dL_areAlike_39 : decode cL_areAlike 39 = .ok (.iconst 1, 1) := by decide +kernel
theorem dL_areAlike_40 : decode cL_areAlike 40 = .ok (.goto 4, 3) := by decide +kernel
theorem dL_areAlike_43 : decode cL_areAlike 43 = .ok (.iconst 0, 1) := by decide +kernel
theorem dL_areAlike_44 : decode cL_areAlike 44 = .ok (.istore_n 3, 1) := by decide +kernel
theorem dL_areAlike_45 : decode cL_areAlike 45 = .ok (.iconst 0, 1) := by decide +kernel
theorem dL_areAlike_46 : decode cL_areAlike 46 = .ok (.istore 4, 2) := by decide +kernel
theorem dL_areAlike_48 : decode cL_areAlike 48 = .ok (.iload 4, 2) := by decide +kernel
theorem dL_areAlike_50 : decode cL_areAlike 50 = .ok (.bipush 11, 2) := by decide +kernel
theorem dL_areAlike_52 : decode cL_areAlike 52 = .ok (.if_icmp .ge 34, 3) := by decide +kernel
theorem dL_areAlike_55 : decode cL_areAlike 55 = .ok (.iload_n 3, 1) := by decide +kernel
theorem dL_areAlike_56 : decode cL_areAlike 56 = .ok (.ifCond .eq 22, 3) := by decide +kernel
theorem dL_areAlike_59 : decode cL_areAlike 59 = .ok (.aload_n 0, 1) := by decide +kernel
theorem dL_areAlike_60 : decode cL_areAlike 60 = .ok (.iload 4, 2) := by decide +kernel
theorem dL_areAlike_62 : decode cL_areAlike 62 = .ok (.invokevirtual 24, 3) := by decide +kernel
theorem dL_areAlike_65 : decode cL_areAlike 65 = .ok (.aload_n 1, 1) := by decide +kernel
theorem dL_areAlike_66 : decode cL_areAlike 66 = .ok (.iload 4, 2) := by decide +kernel
theorem dL_areAlike_68 : decode cL_areAlike 68 = .ok (.invokevirtual 24, 3) := by decide +kernel
theorem dL_areAlike_71 : decode cL_areAlike 71 = .ok (.if_icmp .ne 7, 3) := by decide +kernel
theorem dL_areAlike_74 : decode cL_areAlike 74 = .ok (.iconst 1, 1) := by decide +kernel
theorem dL_areAlike_75 : decode cL_areAlike 75 = .ok (.goto 4, 3) := by decide +kernel
theorem dL_areAlike_78 : decode cL_areAlike 78 = .ok (.iconst 0, 1) := by decide +kernel
theorem dL_areAlike_79 : decode cL_areAlike 79 = .ok (.istore_n 3, 1) := by decide +kernel
theorem dL_areAlike_80 : decode cL_areAlike 80 = .ok (.iinc 4 1, 3) := by decide +kernel
theorem dL_areAlike_83 : decode cL_areAlike 83 = .ok (.goto (-35), 3) := by decide +kernel
theorem dL_areAlike_86 : decode cL_areAlike 86 = .ok (.iconst 0, 1) := by decide +kernel
theorem dL_areAlike_87 : decode cL_areAlike 87 = .ok (.istore 4, 2) := by decide +kernel
theorem dL_areAlike_89 : decode cL_areAlike 89 = .ok (.iload 4, 2) := by decide +kernel
theorem dL_areAlike_91 : decode cL_areAlike 91 = .ok (.bipush 39, 2) := by decide +kernel
theorem dL_areAlike_93 : decode cL_areAlike 93 = .ok (.if_icmp .ge 69, 3) := by decide +kernel
theorem dL_areAlike_96 : decode cL_areAlike 96 = .ok (.iload_n 3, 1) := by decide +kernel
theorem dL_areAlike_97 : decode cL_areAlike 97 = .ok (.ifCond .eq 57, 3) := by decide +kernel
theorem dL_areAlike_100 : decode cL_areAlike 100 = .ok (.aload_n 0, 1) := by decide +kernel
theorem dL_areAlike_101 : decode cL_areAlike 101 = .ok (.iload 4, 2) := by decide +kernel
theorem dL_areAlike_103 : decode cL_areAlike 103 = .ok (.bipush 13, 2) := by decide +kernel
theorem dL_areAlike_105 : decode cL_areAlike 105 = .ok (.idiv, 1) := by decide +kernel
theorem dL_areAlike_106 : decode cL_areAlike 106 = .ok (.iload 4, 2) := by decide +kernel
theorem dL_areAlike_108 : decode cL_areAlike 108 = .ok (.bipush 13, 2) := by decide +kernel
theorem dL_areAlike_110 : decode cL_areAlike 110 = .ok (.irem, 1) := by decide +kernel
theorem dL_areAlike_111 : decode cL_areAlike 111 = .ok (.invokevirtual 15, 3) := by decide +kernel
theorem dL_areAlike_114 : decode cL_areAlike 114 = .ok (.aload_n 1, 1) := by decide +kernel
theorem dL_areAlike_115 : decode cL_areAlike 115 = .ok (.iload 4, 2) := by decide +kernel
theorem dL_areAlike_117 : decode cL_areAlike 117 = .ok (.bipush 13, 2) := by decide +kernel
theorem dL_areAlike_119 : decode cL_areAlike 119 = .ok (.idiv, 1) := by decide +kernel
theorem dL_areAlike_120 : decode cL_areAlike 120 = .ok (.iload 4, 2) := by decide +kernel
theorem dL_areAlike_122 : decode cL_areAlike 122 = .ok (.bipush 13, 2) := by decide +kernel
theorem dL_areAlike_124 : decode cL_areAlike 124 = .ok (.irem, 1) := by decide +kernel
theorem dL_areAlike_125 : decode cL_areAlike 125 = .ok (.invokevirtual 15, 3) := by decide +kernel
theorem dL_areAlike_128 : decode cL_areAlike 128 = .ok (.if_icmp .ne 26, 3) := by decide +kernel
theorem dL_areAlike_131 : decode cL_areAlike 131 = .ok (.aload_n 0, 1) := by decide +kernel
theorem dL_areAlike_132 : decode cL_areAlike 132 = .ok (.iload 4, 2) := by decide +kernel
theorem dL_areAlike_134 : decode cL_areAlike 134 = .ok (.iconst 3, 1) := by decide +kernel
theorem dL_areAlike_135 : decode cL_areAlike 135 = .ok (.irem, 1) := by decide +kernel
theorem dL_areAlike_136 : decode cL_areAlike 136 = .ok (.invokevirtual 67, 3) := by decide +kernel
theorem dL_areAlike_139 : decode cL_areAlike 139 = .ok (.aload_n 1, 1) := by decide +kernel
theorem dL_areAlike_140 : decode cL_areAlike 140 = .ok (.iload 4, 2) := by decide +kernel
theorem dL_areAlike_142 : decode cL_areAlike 142 = .ok (.iconst 3, 1) := by decide +kernel
theorem dL_areAlike_143 : decode cL_areAlike 143 = .ok (.irem, 1) := by decide +kernel
theorem dL_areAlike_144 : decode cL_areAlike 144 = .ok (.invokevirtual 67, 3) := by decide +kernel
theorem dL_areAlike_147 : decode cL_areAlike 147 = .ok (.if_icmp .ne 7, 3) := by decide +kernel
theorem dL_areAlike_150 : decode cL_areAlike 150 = .ok (.iconst 1, 1) := by decide +kernel
theorem dL_areAlike_151 : decode cL_areAlike 151 = .ok (.goto 4, 3) := by decide +kernel
theorem dL_areAlike_154 : decode cL_areAlike 154 = .ok (.iconst 0, 1) := by decide +kernel
theorem dL_areAlike_155 : decode cL_areAlike 155 = .ok (.istore_n 3, 1) := by decide +kernel
theorem dL_areAlike_156 : decode cL_areAlike 156 = .ok (.iinc 4 1, 3) := by decide +kernel
theorem dL_areAlike_159 : decode cL_areAlike 159 = .ok (.goto (-70), 3) := by decide +kernel
theorem dL_areAlike_162 : decode cL_areAlike 162 = .ok (.iconst 0, 1) := by decide +kernel
theorem dL_areAlike_163 : decode cL_areAlike 163 = .ok (.istore 4, 2) := by decide +kernel
theorem dL_areAlike_165 : decode cL_areAlike 165 = .ok (.iload 4, 2) := by decide +kernel
theorem dL_areAlike_167 : decode cL_areAlike 167 = .ok (.iconst 4, 1) := by decide +kernel
theorem dL_areAlike_168 : decode cL_areAlike 168 = .ok (.aload_n 0, 1) := by decide +kernel
theorem dL_areAlike_169 : decode cL_areAlike 169 = .ok (.iconst 1, 1) := by decide +kernel
theorem dL_areAlike_170 : decode cL_areAlike 170 = .ok (.invokevirtual 24, 3) := by decide +kernel
theorem dL_areAlike_173 : decode cL_areAlike 173 = .ok (.imul, 1) := by decide +kernel
theorem dL_areAlike_174 : decode cL_areAlike 174 = .ok (.if_icmp .ge 46, 3) := by decide +kernel
theorem dL_areAlike_177 : decode cL_areAlike 177 = .ok (.iload_n 3, 1) := by decide +kernel
theorem dL_areAlike_178 : decode cL_areAlike 178 = .ok (.ifCond .eq 34, 3) := by decide +kernel
theorem dL_areAlike_181 : decode cL_areAlike 181 = .ok (.aload_n 0, 1) := by decide +kernel
theorem dL_areAlike_182 : decode cL_areAlike 182 = .ok (.iload 4, 2) := by decide +kernel
theorem dL_areAlike_184 : decode cL_areAlike 184 = .ok (.iconst 4, 1) := by decide +kernel
theorem dL_areAlike_185 : decode cL_areAlike 185 = .ok (.idiv, 1) := by decide +kernel
theorem dL_areAlike_186 : decode cL_areAlike 186 = .ok (.iload 4, 2) := by decide +kernel
theorem dL_areAlike_188 : decode cL_areAlike 188 = .ok (.iconst 4, 1) := by decide +kernel
theorem dL_areAlike_189 : decode cL_areAlike 189 = .ok (.irem, 1) := by decide +kernel
theorem dL_areAlike_190 : decode cL_areAlike 190 = .ok (.invokevirtual 91, 3) := by decide +kernel
theorem dL_areAlike_193 : decode cL_areAlike 193 = .ok (.aload_n 1, 1) := by decide +kernel
theorem dL_areAlike_194 : decode cL_areAlike 194 = .ok (.iload 4, 2) := by decide +kernel
theorem dL_areAlike_196 : decode cL_areAlike 196 = .ok (.iconst 4, 1) := by decide +kernel
theorem dL_areAlike_197 : decode cL_areAlike 197 = .ok (.idiv, 1) := by decide +kernel
theorem dL_areAlike_198 : decode cL_areAlike 198 = .ok (.iload 4, 2) := by decide +kernel
theorem dL_areAlike_200 : decode cL_areAlike 200 = .ok (.iconst 4, 1) := by decide +kernel
theorem dL_areAlike_201 : decode cL_areAlike 201 = .ok (.irem, 1) := by decide +kernel
theorem dL_areAlike_202 : decode cL_areAlike 202 = .ok (.invokevirtual 91, 3) := by decide +kernel
theorem dL_areAlike_205 : decode cL_areAlike 205 = .ok (.if_icmp .ne 7, 3) := by decide +kernel
theorem dL_areAlike_208 : decode cL_areAlike 208 = .ok (.iconst 1, 1) := by decide +kernel
theorem dL_areAlike_209 : decode cL_areAlike 209 = .ok (.goto 4, 3) := by decide +kernel
theorem dL_areAlike_212 : decode cL_areAlike 212 = .ok (.iconst 0, 1) := by decide +kernel
theorem dL_areAlike_213 : decode cL_areAlike 213 = .ok (.istore_n 3, 1) := by decide +kernel
theorem dL_areAlike_214 : decode cL_areAlike 214 = .ok (.iinc 4 1, 3) := by decide +kernel
theorem dL_areAlike_217 : decode cL_areAlike 217 = .ok (.goto (-52), 3) := by decide +kernel
theorem dL_areAlike_220 : decode cL_areAlike 220 = .ok (.iconst 1, 1) := by decide +kernel
theorem dL_areAlike_221 : decode cL_areAlike 221 = .ok (.iload_n 2, 1) := by decide +kernel
theorem dL_areAlike_222 : decode cL_areAlike 222 = .ok (.bipush 20, 2) := by decide +kernel
theorem dL_areAlike_224 : decode cL_areAlike 224 = .ok (.invokestatic 19, 3) := by decide +kernel
theorem dL_areAlike_227 : decode cL_areAlike 227 = .ok (.iadd, 1) := by decide +kernel
theorem dL_areAlike_228 : decode cL_areAlike 228 = .ok (.istore 4, 2) := by decide +kernel
theorem dL_areAlike_230 : decode cL_areAlike 230 = .ok (.iconst 0, 1) := by decide +kernel
theorem dL_areAlike_231 : decode cL_areAlike 231 = .ok (.istore 5, 2) := by decide +kernel
theorem dL_areAlike_233 : decode cL_areAlike 233 = .ok (.iload 5, 2) := by decide +kernel
theorem dL_areAlike_235 : decode cL_areAlike 235 = .ok (.iconst 3, 1) := by decide +kernel
theorem dL_areAlike_236 : decode cL_areAlike 236 = .ok (.if_icmp .ge 61, 3) := by decide +kernel
theorem dL_areAlike_239 : decode cL_areAlike 239 = .ok (.iload_n 3, 1) := by decide +kernel
theorem dL_areAlike_240 : decode cL_areAlike 240 = .ok (.ifCond .eq 49, 3) := by decide +kernel
theorem dL_areAlike_243 : decode cL_areAlike 243 = .ok (.aload_n 0, 1) := by decide +kernel
theorem dL_areAlike_244 : decode cL_areAlike 244 = .ok (.iload 5, 2) := by decide +kernel
theorem dL_areAlike_246 : decode cL_areAlike 246 = .ok (.iload 4, 2) := by decide +kernel
theorem dL_areAlike_248 : decode cL_areAlike 248 = .ok (.iconst 0, 1) := by decide +kernel
theorem dL_areAlike_249 : decode cL_areAlike 249 = .ok (.invokevirtual 94, 3) := by decide +kernel
theorem dL_areAlike_252 : decode cL_areAlike 252 = .ok (.aload_n 1, 1) := by decide +kernel
theorem dL_areAlike_253 : decode cL_areAlike 253 = .ok (.iload 5, 2) := by decide +kernel
theorem dL_areAlike_255 : decode cL_areAlike 255 = .ok (.iload 4, 2) := by decide +kernel
theorem dL_areAlike_257 : decode cL_areAlike 257 = .ok (.iconst 0, 1) := by decide +kernel
theorem dL_areAlike_258 : decode cL_areAlike 258 = .ok (.invokevirtual 94, 3) := by decide +kernel
theorem dL_areAlike_261 : decode cL_areAlike 261 = .ok (.if_icmp .ne 28, 3) := by decide +kernel
theorem dL_areAlike_264 : decode cL_areAlike 264 = .ok (.aload_n 0, 1) := by decide +kernel
theorem dL_areAlike_265 : decode cL_areAlike 265 = .ok (.iload 5, 2) := by decide +kernel
theorem dL_areAlike_267 : decode cL_areAlike 267 = .ok (.iload 4, 2) := by decide +kernel
theorem dL_areAlike_269 : decode cL_areAlike 269 = .ok (.iconst 1, 1) := by decide +kernel
theorem dL_areAlike_270 : decode cL_areAlike 270 = .ok (.invokevirtual 94, 3) := by decide +kernel
theorem dL_areAlike_273 : decode cL_areAlike 273 = .ok (.aload_n 1, 1) := by decide +kernel
theorem dL_areAlike_274 : decode cL_areAlike 274 = .ok (.iload 5, 2) := by decide +kernel
theorem dL_areAlike_276 : decode cL_areAlike 276 = .ok (.iload 4, 2) := by decide +kernel
theorem dL_areAlike_278 : decode cL_areAlike 278 = .ok (.iconst 1, 1) := by decide +kernel
theorem dL_areAlike_279 : decode cL_areAlike 279 = .ok (.invokevirtual 94, 3) := by decide +kernel
theorem dL_areAlike_282 : decode cL_areAlike 282 = .ok (.if_icmp .ne 7, 3) := by decide +kernel
theorem dL_areAlike_285 : decode cL_areAlike 285 = .ok (.iconst 1, 1) := by decide +kernel
theorem dL_areAlike_286 : decode cL_areAlike 286 = .ok (.goto 4, 3) := by decide +kernel
theorem dL_areAlike_289 : decode cL_areAlike 289 = .ok (.iconst 0, 1) := by decide +kernel
theorem dL_areAlike_290 : decode cL_areAlike 290 = .ok (.istore_n 3, 1) := by decide +kernel
theorem dL_areAlike_291 : decode cL_areAlike 291 = .ok (.iinc 5 1, 3) := by decide +kernel
theorem dL_areAlike_294 : decode cL_areAlike 294 = .ok (.goto (-61), 3) := by decide +kernel
theorem dL_areAlike_297 : decode cL_areAlike 297 = .ok (.iconst 1, 1) := by decide +kernel
theorem dL_areAlike_298 : decode cL_areAlike 298 = .ok (.iload_n 2, 1) := by decide +kernel
theorem dL_areAlike_299 : decode cL_areAlike 299 = .ok (.iconst 5, 1) := by decide +kernel
theorem dL_areAlike_300 : decode cL_areAlike 300 = .ok (.ishr, 1) := by decide +kernel
theorem dL_areAlike_301 : decode cL_areAlike 301 = .ok (.bipush 99, 2) := by decide +kernel
theorem dL_areAlike_303 : decode cL_areAlike 303 = .ok (.invokestatic 19, 3) := by decide +kernel
theorem dL_areAlike_306 : decode cL_areAlike 306 = .ok (.iadd, 1) := by decide +kernel
theorem dL_areAlike_307 : decode cL_areAlike 307 = .ok (.istore 5, 2) := by decide +kernel
theorem dL_areAlike_309 : decode cL_areAlike 309 = .ok (.iconst 0, 1) := by decide +kernel
theorem dL_areAlike_310 : decode cL_areAlike 310 = .ok (.istore 6, 2) := by decide +kernel
theorem dL_areAlike_312 : decode cL_areAlike 312 = .ok (.iload 6, 2) := by decide +kernel
theorem dL_areAlike_314 : decode cL_areAlike 314 = .ok (.iconst 4, 1) := by decide +kernel
theorem dL_areAlike_315 : decode cL_areAlike 315 = .ok (.if_icmp .ge 38, 3) := by decide +kernel
theorem dL_areAlike_318 : decode cL_areAlike 318 = .ok (.iload_n 3, 1) := by decide +kernel
theorem dL_areAlike_319 : decode cL_areAlike 319 = .ok (.ifCond .eq 26, 3) := by decide +kernel
theorem dL_areAlike_322 : decode cL_areAlike 322 = .ok (.aload_n 0, 1) := by decide +kernel
theorem dL_areAlike_323 : decode cL_areAlike 323 = .ok (.iload 5, 2) := by decide +kernel
theorem dL_areAlike_325 : decode cL_areAlike 325 = .ok (.iload 6, 2) := by decide +kernel
theorem dL_areAlike_327 : decode cL_areAlike 327 = .ok (.invokevirtual 73, 3) := by decide +kernel
theorem dL_areAlike_330 : decode cL_areAlike 330 = .ok (.aload_n 1, 1) := by decide +kernel
theorem dL_areAlike_331 : decode cL_areAlike 331 = .ok (.iload 5, 2) := by decide +kernel
theorem dL_areAlike_333 : decode cL_areAlike 333 = .ok (.iload 6, 2) := by decide +kernel
theorem dL_areAlike_335 : decode cL_areAlike 335 = .ok (.invokevirtual 73, 3) := by decide +kernel
theorem dL_areAlike_338 : decode cL_areAlike 338 = .ok (.if_icmp .ne 7, 3) := by decide +kernel
theorem dL_areAlike_341 : decode cL_areAlike 341 = .ok (.iconst 1, 1) := by decide +kernel
theorem dL_areAlike_342 : decode cL_areAlike 342 = .ok (.goto 4, 3) := by decide +kernel
theorem dL_areAlike_345 : decode cL_areAlike 345 = .ok (.iconst 0, 1) := by decide +kernel
theorem dL_areAlike_346 : decode cL_areAlike 346 = .ok (.istore_n 3, 1) := by decide +kernel
theorem dL_areAlike_347 : decode cL_areAlike 347 = .ok (.iinc 6 1, 3) := by decide +kernel
theorem dL_areAlike_350 : decode cL_areAlike 350 = .ok (.goto (-38), 3) := by decide +kernel
theorem dL_areAlike_353 : decode cL_areAlike 353 = .ok (.iload_n 2, 1) := by decide +kernel
theorem dL_areAlike_354 : decode cL_areAlike 354 = .ok (.iconst 3, 1) := by decide +kernel
theorem dL_areAlike_355 : decode cL_areAlike 355 = .ok (.ishr, 1) := by decide +kernel
theorem dL_areAlike_356 : decode cL_areAlike 356 = .ok (.aload_n 0, 1) := by decide +kernel
theorem dL_areAlike_357 : decode cL_areAlike 357 = .ok (.iconst 1, 1) := by decide +kernel
theorem dL_areAlike_358 : decode cL_areAlike 358 = .ok (.invokevirtual 24, 3) := by decide +kernel
theorem dL_areAlike_361 : decode cL_areAlike 361 = .ok (.iconst 1, 1) := by decide +kernel
theorem dL_areAlike_362 : decode cL_areAlike 362 = .ok (.iadd, 1) := by decide +kernel
theorem dL_areAlike_363 : decode cL_areAlike 363 = .ok (.invokestatic 19, 3) := by decide +kernel
theorem dL_areAlike_366 : decode cL_areAlike 366 = .ok (.istore 6, 2) := by decide +kernel
theorem dL_areAlike_368 : decode cL_areAlike 368 = .ok (.aload_n 0, 1) := by decide +kernel
theorem dL_areAlike_369 : decode cL_areAlike 369 = .ok (.iload 6, 2) := by decide +kernel
theorem dL_areAlike_371 : decode cL_areAlike 371 = .ok (.invokevirtual 97, 3) := by decide +kernel
theorem dL_areAlike_374 : decode cL_areAlike 374 = .ok (.istore 7, 2) := by decide +kernel
theorem dL_areAlike_376 : decode cL_areAlike 376 = .ok (.iload_n 3, 1) := by decide +kernel
theorem dL_areAlike_377 : decode cL_areAlike 377 = .ok (.ifCond .eq 41, 3) := by decide +kernel
theorem dL_areAlike_380 : decode cL_areAlike 380 = .ok (.iload 7, 2) := by decide +kernel
theorem dL_areAlike_382 : decode cL_areAlike 382 = .ok (.aload_n 1, 1) := by decide +kernel
theorem dL_areAlike_383 : decode cL_areAlike 383 = .ok (.iload 6, 2) := by decide +kernel
theorem dL_areAlike_385 : decode cL_areAlike 385 = .ok (.invokevirtual 97, 3) := by decide +kernel
theorem dL_areAlike_388 : decode cL_areAlike 388 = .ok (.if_icmp .ne 30, 3) := by decide +kernel
theorem dL_areAlike_391 : decode cL_areAlike 391 = .ok (.iload 7, 2) := by decide +kernel
theorem dL_areAlike_393 : decode cL_areAlike 393 = .ok (.iconst 1, 1) := by decide +kernel
theorem dL_areAlike_394 : decode cL_areAlike 394 = .ok (.if_icmp .lt 20, 3) := by decide +kernel
theorem dL_areAlike_397 : decode cL_areAlike 397 = .ok (.iload 7, 2) := by decide +kernel
theorem dL_areAlike_399 : decode cL_areAlike 399 = .ok (.bipush 99, 2) := by decide +kernel
theorem dL_areAlike_401 : decode cL_areAlike 401 = .ok (.if_icmp .gt 13, 3) := by decide +kernel
theorem dL_areAlike_404 : decode cL_areAlike 404 = .ok (.aload_n 0, 1) := by decide +kernel
theorem dL_areAlike_405 : decode cL_areAlike 405 = .ok (.iload 7, 2) := by decide +kernel
theorem dL_areAlike_407 : decode cL_areAlike 407 = .ok (.iconst 0, 1) := by decide +kernel
theorem dL_areAlike_408 : decode cL_areAlike 408 = .ok (.invokevirtual 73, 3) := by decide +kernel
theorem dL_areAlike_411 : decode cL_areAlike 411 = .ok (.ifCond .le 7, 3) := by decide +kernel
theorem dL_areAlike_414 : decode cL_areAlike 414 = .ok (.iconst 1, 1) := by decide +kernel
theorem dL_areAlike_415 : decode cL_areAlike 415 = .ok (.goto 4, 3) := by decide +kernel
theorem dL_areAlike_418 : decode cL_areAlike 418 = .ok (.iconst 0, 1) := by decide +kernel
theorem dL_areAlike_419 : decode cL_areAlike 419 = .ok (.ireturn, 1) := by decide +kernel
theorem dL_isWell_0 : decode cL_isWell 0 = .ok (.aload_n 0, 1) := by decide +kernel
theorem dL_isWell_1 : decode cL_isWell 1 = .ok (.iconst 1, 1) := by decide +kernel
theorem dL_isWell_2 : decode cL_isWell 2 = .ok (.invokevirtual 24, 3) := by decide +kernel
theorem dL_isWell_5 : decode cL_isWell 5 = .ok (.aload_n 0, 1) := by decide +kernel
theorem dL_isWell_6 : decode cL_isWell 6 = .ok (.iconst 2, 1) := by decide +kernel
theorem dL_isWell_7 : decode cL_isWell 7 = .ok (.invokevirtual 24, 3) := by decide +kernel
theorem dL_isWell_10 : decode cL_isWell 10 = .ok (.aload_n 0, 1) := by decide +kernel
theorem dL_isWell_11 : decode cL_isWell 11 = .ok (.iconst 3, 1) := by decide +kernel
theorem dL_isWell_12 : decode cL_isWell 12 = .ok (.invokevirtual 24, 3) := by decide +kernel
theorem dL_isWell_15 : decode cL_isWell 15 = .ok (.iadd, 1) := by decide +kernel
theorem dL_isWell_16 : decode cL_isWell 16 = .ok (.aload_n 0, 1) := by decide +kernel
theorem dL_isWell_17 : decode cL_isWell 17 = .ok (.iconst 4, 1) := by decide +kernel
theorem dL_isWell_18 : decode cL_isWell 18 = .ok (.invokevirtual 24, 3) := by decide +kernel
theorem dL_isWell_21 : decode cL_isWell 21 = .ok (.iadd, 1) := by decide +kernel
theorem dL_isWell_22 : decode cL_isWell 22 = .ok (.if_icmp .ne 62, 3) := by decide +kernel
theorem dL_isWell_25 : decode cL_isWell 25 = .ok (.aload_n 0, 1) := by decide +kernel
theorem dL_isWell_26 : decode cL_isWell 26 = .ok (.iconst 2, 1) := by decide +kernel
theorem dL_isWell_27 : decode cL_isWell 27 = .ok (.invokevirtual 24, 3) := by decide +kernel
theorem dL_isWell_30 : decode cL_isWell 30 = .ok (.aload_n 0, 1) := by decide +kernel
theorem dL_isWell_31 : decode cL_isWell 31 = .ok (.iconst 3, 1) := by decide +kernel
theorem dL_isWell_32 : decode cL_isWell 32 = .ok (.invokestatic 57, 3) := by decide +kernel
theorem dL_isWell_35 : decode cL_isWell 35 = .ok (.if_icmp .ne 49, 3) := by decide +kernel
theorem dL_isWell_38 : decode cL_isWell 38 = .ok (.aload_n 0, 1) := by decide +kernel
theorem dL_isWell_39 : decode cL_isWell 39 = .ok (.iconst 3, 1) := by decide +kernel
theorem dL_isWell_40 : decode cL_isWell 40 = .ok (.invokevirtual 24, 3) := by decide +kernel
theorem dL_isWell_43 : decode cL_isWell 43 = .ok (.aload_n 0, 1) := by decide +kernel
theorem dL_isWell_44 : decode cL_isWell 44 = .ok (.bipush 7, 2) := by decide +kernel
theorem dL_isWell_46 : decode cL_isWell 46 = .ok (.invokestatic 57, 3) := by decide +kernel
theorem dL_isWell_49 : decode cL_isWell 49 = .ok (.if_icmp .ne 35, 3) := by decide +kernel
theorem dL_isWell_52 : decode cL_isWell 52 = .ok (.aload_n 0, 1) := by decide +kernel
theorem dL_isWell_53 : decode cL_isWell 53 = .ok (.iconst 4, 1) := by decide +kernel
theorem dL_isWell_54 : decode cL_isWell 54 = .ok (.invokevirtual 24, 3) := by decide +kernel
theorem dL_isWell_57 : decode cL_isWell 57 = .ok (.aload_n 0, 1) := by decide +kernel
theorem dL_isWell_58 : decode cL_isWell 58 = .ok (.bipush 8, 2) := by decide +kernel
theorem dL_isWell_60 : decode cL_isWell 60 = .ok (.invokestatic 57, 3) := by decide +kernel
theorem dL_isWell_63 : decode cL_isWell 63 = .ok (.if_icmp .ne 21, 3) := by decide +kernel
theorem dL_isWell_66 : decode cL_isWell 66 = .ok (.aload_n 0, 1) := by decide +kernel
theorem dL_isWell_67 : decode cL_isWell 67 = .ok (.iconst 5, 1) := by decide +kernel
theorem dL_isWell_68 : decode cL_isWell 68 = .ok (.invokevirtual 24, 3) := by decide +kernel
theorem dL_isWell_71 : decode cL_isWell 71 = .ok (.aload_n 0, 1) := by decide +kernel
theorem dL_isWell_72 : decode cL_isWell 72 = .ok (.bipush 6, 2) := by decide +kernel
theorem dL_isWell_74 : decode cL_isWell 74 = .ok (.invokestatic 57, 3) := by decide +kernel
theorem dL_isWell_77 : decode cL_isWell 77 = .ok (.if_icmp .ne 7, 3) := by decide +kernel
theorem dL_isWell_80 : decode cL_isWell 80 = .ok (.iconst 1, 1) := by decide +kernel
theorem dL_isWell_81 : decode cL_isWell 81 = .ok (.goto 4, 3) := by decide +kernel
theorem dL_isWell_84 : decode cL_isWell 84 = .ok (.iconst 0, 1) := by decide +kernel
theorem dL_isWell_85 : decode cL_isWell 85 = .ok (.istore_n 1, 1) := by decide +kernel
theorem dL_isWell_86 : decode cL_isWell 86 = .ok (.iconst 0, 1) := by decide +kernel
theorem dL_isWell_87 : decode cL_isWell 87 = .ok (.istore_n 2, 1) := by decide +kernel
theorem dL_isWell_88 : decode cL_isWell 88 = .ok (.iconst 0, 1) := by decide +kernel
theorem dL_isWell_89 : decode cL_isWell 89 = .ok (.istore_n 3, 1) := by decide +kernel
theorem dL_isWell_90 : decode cL_isWell 90 = .ok (.iload_n 3, 1) := by decide +kernel
theorem dL_isWell_91 : decode cL_isWell 91 = .ok (.iconst 3, 1) := by decide +kernel
theorem dL_isWell_92 : decode cL_isWell 92 = .ok (.if_icmp .ge 65, 3) := by decide +kernel
theorem dL_isWell_95 : decode cL_isWell 95 = .ok (.aload_n 0, 1) := by decide +kernel
theorem dL_isWell_96 : decode cL_isWell 96 = .ok (.iload_n 3, 1) := by decide +kernel
theorem dL_isWell_97 : decode cL_isWell 97 = .ok (.invokevirtual 64, 3) := by decide +kernel
theorem dL_isWell_100 : decode cL_isWell 100 = .ok (.istore 4, 2) := by decide +kernel
theorem dL_isWell_102 : decode cL_isWell 102 = .ok (.iload_n 2, 1) := by decide +kernel
theorem dL_isWell_103 : decode cL_isWell 103 = .ok (.iload 4, 2) := by decide +kernel
theorem dL_isWell_105 : decode cL_isWell 105 = .ok (.ifCond .lt 7, 3) := by decide +kernel
theorem dL_isWell_108 : decode cL_isWell 108 = .ok (.iconst 1, 1) := by decide +kernel
theorem dL_isWell_109 : decode cL_isWell 109 = .ok (.goto 4, 3) := by decide +kernel
theorem dL_isWell_112 : decode cL_isWell 112 = .ok (.iconst 0, 1) := by decide +kernel
theorem dL_isWell_113 : decode cL_isWell 113 = .ok (.iadd, 1) := by decide +kernel
theorem dL_isWell_114 : decode cL_isWell 114 = .ok (.istore_n 2, 1) := by decide +kernel
theorem dL_isWell_115 : decode cL_isWell 115 = .ok (.iload_n 1, 1) := by decide +kernel
theorem dL_isWell_116 : decode cL_isWell 116 = .ok (.ifCond .eq 33, 3) := by decide +kernel
theorem dL_isWell_119 : decode cL_isWell 119 = .ok (.iload 4, 2) := by decide +kernel
theorem dL_isWell_121 : decode cL_isWell 121 = .ok (.ifCond .lt 14, 3) := by decide +kernel
theorem dL_isWell_124 : decode cL_isWell 124 = .ok (.aload_n 0, 1) := by decide +kernel
theorem dL_isWell_125 : decode cL_isWell 125 = .ok (.iload 4, 2) := by decide +kernel
theorem dL_isWell_127 : decode cL_isWell 127 = .ok (.iconst 4, 1) := by decide +kernel
theorem dL_isWell_128 : decode cL_isWell 128 = .ok (.invokevirtual 15, 3) := by decide +kernel
theorem dL_isWell_131 : decode cL_isWell 131 = .ok (.iconst 1, 1) := by decide +kernel
theorem dL_isWell_132 : decode cL_isWell 132 = .ok (.if_icmp .ne 17, 3) := by decide +kernel
theorem dL_isWell_135 : decode cL_isWell 135 = .ok (.iload 4, 2) := by decide +kernel
theorem dL_isWell_137 : decode cL_isWell 137 = .ok (.ifCond .ge 8, 3) := by decide +kernel
theorem dL_isWell_140 : decode cL_isWell 140 = .ok (.iload_n 3, 1) := by decide +kernel
theorem dL_isWell_141 : decode cL_isWell 141 = .ok (.iload_n 2, 1) := by decide +kernel
theorem dL_isWell_142 : decode cL_isWell 142 = .ok (.if_icmp .lt 7, 3) := by decide +kernel
theorem dL_isWell_145 : decode cL_isWell 145 = .ok (.iconst 1, 1) := by decide +kernel
theorem dL_isWell_146 : decode cL_isWell 146 = .ok (.goto 4, 3) := by decide +kernel
theorem dL_isWell_149 : decode cL_isWell 149 = .ok (.iconst 0, 1) := by decide +kernel
theorem dL_isWell_150 : decode cL_isWell 150 = .ok (.istore_n 1, 1) := by decide +kernel
theorem dL_isWell_151 : decode cL_isWell 151 = .ok (.iinc 3 1, 3) := by decide +kernel
theorem dL_isWell_154 : decode cL_isWell 154 = .ok (.goto (-64), 3) := by decide +kernel
theorem dL_isWell_157 : decode cL_isWell 157 = .ok (.iload_n 1, 1) := by decide +kernel
theorem dL_isWell_158 : decode cL_isWell 158 = .ok (.ifCond .eq 16, 3) := by decide +kernel
theorem dL_isWell_161 : decode cL_isWell 161 = .ok (.iload_n 2, 1) := by decide +kernel
theorem dL_isWell_162 : decode cL_isWell 162 = .ok (.aload_n 0, 1) := by decide +kernel
theorem dL_isWell_163 : decode cL_isWell 163 = .ok (.iconst 4, 1) := by decide +kernel
theorem dL_isWell_164 : decode cL_isWell 164 = .ok (.invokestatic 57, 3) := by decide +kernel
theorem dL_isWell_167 : decode cL_isWell 167 = .ok (.if_icmp .ne 7, 3) := by decide +kernel
theorem dL_isWell_170 : decode cL_isWell 170 = .ok (.iconst 1, 1) := by decide +kernel
theorem dL_isWell_171 : decode cL_isWell 171 = .ok (.goto 4, 3) := by decide +kernel
theorem dL_isWell_174 : decode cL_isWell 174 = .ok (.iconst 0, 1) := by decide +kernel
theorem dL_isWell_175 : decode cL_isWell 175 = .ok (.istore_n 1, 1) := by decide +kernel
theorem dL_isWell_176 : decode cL_isWell 176 = .ok (.iconst 0, 1) := by decide +kernel
theorem dL_isWell_177 : decode cL_isWell 177 = .ok (.istore_n 3, 1) := by decide +kernel
theorem dL_isWell_178 : decode cL_isWell 178 = .ok (.iload_n 3, 1) := by decide +kernel
theorem dL_isWell_179 : decode cL_isWell 179 = .ok (.iconst 3, 1) := by decide +kernel
theorem dL_isWell_180 : decode cL_isWell 180 = .ok (.if_icmp .ge 382, 3) := by decide +kernel
theorem dL_isWell_183 : decode cL_isWell 183 = .ok (.iconst 0, 1) := by decide +kernel
theorem dL_isWell_184 : decode cL_isWell 184 = .ok (.istore 4, 2) := by decide +kernel
theorem dL_isWell_186 : decode cL_isWell 186 = .ok (.bipush (-6), 2) := by decide +kernel
theorem dL_isWell_188 : decode cL_isWell 188 = .ok (.istore 5, 2) := by decide +kernel
theorem dL_isWell_190 : decode cL_isWell 190 = .ok (.iconst 0, 1) := by decide +kernel
theorem dL_isWell_191 : decode cL_isWell 191 = .ok (.istore 6, 2) := by decide +kernel
theorem dL_isWell_193 : decode cL_isWell 193 = .ok (.bipush (-6), 2) := by decide +kernel
theorem dL_isWell_195 : decode cL_isWell 195 = .ok (.istore 7, 2) := by decide +kernel
theorem dL_isWell_197 : decode cL_isWell 197 = .ok (.iconst (-1), 1) := by decide +kernel
theorem dL_isWell_198 : decode cL_isWell 198 = .ok (.istore 8, 2) := by decide +kernel
theorem dL_isWell_200 : decode cL_isWell 200 = .ok (.aload_n 0, 1) := by decide +kernel
theorem dL_isWell_201 : decode cL_isWell 201 = .ok (.iconst 1, 1) := by decide +kernel
theorem dL_isWell_202 : decode cL_isWell 202 = .ok (.invokevirtual 24, 3) := by decide +kernel
theorem dL_isWell_205 : decode cL_isWell 205 = .ok (.iconst 1, 1) := by decide +kernel
theorem dL_isWell_206 : decode cL_isWell 206 = .ok (.isub, 1) := by decide +kernel
theorem dL_isWell_207 : decode cL_isWell 207 = .ok (.istore 9, 2) := by decide +kernel
theorem dL_isWell_209 : decode cL_isWell 209 = .ok (.iload 9, 2) := by decide +kernel
theorem dL_isWell_211 : decode cL_isWell 211 = .ok (.ifCond .lt 185, 3) := by decide +kernel
theorem dL_isWell_214 : decode cL_isWell 214 = .ok (.aload_n 0, 1) := by decide +kernel
theorem dL_isWell_215 : decode cL_isWell 215 = .ok (.iload 9, 2) := by decide +kernel
theorem dL_isWell_217 : decode cL_isWell 217 = .ok (.iconst 0, 1) := by decide +kernel
theorem dL_isWell_218 : decode cL_isWell 218 = .ok (.invokevirtual 91, 3) := by decide +kernel
theorem dL_isWell_221 : decode cL_isWell 221 = .ok (.iconst 3, 1) := by decide +kernel
theorem dL_isWell_222 : decode cL_isWell 222 = .ok (.irem, 1) := by decide +kernel
theorem dL_isWell_223 : decode cL_isWell 223 = .ok (.iload_n 3, 1) := by decide +kernel
theorem dL_isWell_224 : decode cL_isWell 224 = .ok (.if_icmp .ne 166, 3) := by decide +kernel
theorem dL_isWell_227 : decode cL_isWell 227 = .ok (.aload_n 0, 1) := by decide +kernel
theorem dL_isWell_228 : decode cL_isWell 228 = .ok (.iload 9, 2) := by decide +kernel
theorem dL_isWell_230 : decode cL_isWell 230 = .ok (.iconst 2, 1) := by decide +kernel
theorem dL_isWell_231 : decode cL_isWell 231 = .ok (.invokevirtual 91, 3) := by decide +kernel
theorem dL_isWell_234 : decode cL_isWell 234 = .ok (.istore 10, 2) := by decide +kernel
theorem dL_isWell_236 : decode cL_isWell 236 = .ok (.aload_n 0, 1) := by decide +kernel
theorem dL_isWell_237 : decode cL_isWell 237 = .ok (.iload 9, 2) := by decide +kernel
theorem dL_isWell_239 : decode cL_isWell 239 = .ok (.iconst 3, 1) := by decide +kernel
theorem dL_isWell_240 : decode cL_isWell 240 = .ok (.invokevirtual 91, 3) := by decide +kernel
theorem dL_isWell_243 : decode cL_isWell 243 = .ok (.istore 11, 2) := by decide +kernel
theorem dL_isWell_245 : decode cL_isWell 245 = .ok (.iload 4, 2) := by decide +kernel
theorem dL_isWell_247 : decode cL_isWell 247 = .ok (.iload 10, 2) := by decide +kernel
theorem dL_isWell_249 : decode cL_isWell 249 = .ok (.iconst 1, 1) := by decide +kernel
theorem dL_isWell_250 : decode cL_isWell 250 = .ok (.if_icmp .ne 8, 3) := by decide +kernel
theorem dL_isWell_253 : decode cL_isWell 253 = .ok (.iload 11, 2) := by decide +kernel
theorem dL_isWell_255 : decode cL_isWell 255 = .ok (.goto 4, 3) := by decide +kernel
theorem dL_isWell_258 : decode cL_isWell 258 = .ok (.iconst 0, 1) := by decide +kernel
theorem dL_isWell_259 : decode cL_isWell 259 = .ok (.iadd, 1) := by decide +kernel
theorem dL_isWell_260 : decode cL_isWell 260 = .ok (.istore 4, 2) := by decide +kernel
theorem dL_isWell_262 : decode cL_isWell 262 = .ok (.iload 10, 2) := by decide +kernel
theorem dL_isWell_264 : decode cL_isWell 264 = .ok (.iconst 1, 1) := by decide +kernel
theorem dL_isWell_265 : decode cL_isWell 265 = .ok (.if_icmp .ne 15, 3) := by decide +kernel
theorem dL_isWell_268 : decode cL_isWell 268 = .ok (.iload 11, 2) := by decide +kernel
theorem dL_isWell_270 : decode cL_isWell 270 = .ok (.iload 5, 2) := by decide +kernel
theorem dL_isWell_272 : decode cL_isWell 272 = .ok (.if_icmp .le 8, 3) := by decide +kernel
theorem dL_isWell_275 : decode cL_isWell 275 = .ok (.iload 11, 2) := by decide +kernel
theorem dL_isWell_277 : decode cL_isWell 277 = .ok (.goto 5, 3) := by decide +kernel
theorem dL_isWell_280 : decode cL_isWell 280 = .ok (.iload 5, 2) := by decide +kernel
theorem dL_isWell_282 : decode cL_isWell 282 = .ok (.istore 5, 2) := by decide +kernel
theorem dL_isWell_284 : decode cL_isWell 284 = .ok (.iload 6, 2) := by decide +kernel
theorem dL_isWell_286 : decode cL_isWell 286 = .ok (.iload 10, 2) := by decide +kernel
theorem dL_isWell_288 : decode cL_isWell 288 = .ok (.ifCond .ne 7, 3) := by decide +kernel
theorem dL_isWell_291 : decode cL_isWell 291 = .ok (.iconst 1, 1) := by decide +kernel
theorem dL_isWell_292 : decode cL_isWell 292 = .ok (.goto 4, 3) := by decide +kernel
theorem dL_isWell_295 : decode cL_isWell 295 = .ok (.iconst 0, 1) := by decide +kernel
theorem dL_isWell_296 : decode cL_isWell 296 = .ok (.iadd, 1) := by decide +kernel
theorem dL_isWell_297 : decode cL_isWell 297 = .ok (.istore 6, 2) := by decide +kernel
theorem dL_isWell_299 : decode cL_isWell 299 = .ok (.iload 10, 2) := by decide +kernel
theorem dL_isWell_301 : decode cL_isWell 301 = .ok (.ifCond .ne 8, 3) := by decide +kernel
theorem dL_isWell_304 : decode cL_isWell 304 = .ok (.iload 9, 2) := by decide +kernel
theorem dL_isWell_306 : decode cL_isWell 306 = .ok (.goto 5, 3) := by decide +kernel
theorem dL_isWell_309 : decode cL_isWell 309 = .ok (.iload 7, 2) := by decide +kernel
theorem dL_isWell_311 : decode cL_isWell 311 = .ok (.istore 7, 2) := by decide +kernel
theorem dL_isWell_313 : decode cL_isWell 313 = .ok (.iload_n 1, 1) := by decide +kernel
theorem dL_isWell_314 : decode cL_isWell 314 = .ok (.ifCond .eq 59, 3) := by decide +kernel
theorem dL_isWell_317 : decode cL_isWell 317 = .ok (.iload 10, 2) := by decide +kernel
theorem dL_isWell_319 : decode cL_isWell 319 = .ok (.ifCond .ne 9, 3) := by decide +kernel
theorem dL_isWell_322 : decode cL_isWell 322 = .ok (.iload 8, 2) := by decide +kernel
theorem dL_isWell_324 : decode cL_isWell 324 = .ok (.iconst 1, 1) := by decide +kernel
theorem dL_isWell_325 : decode cL_isWell 325 = .ok (.if_icmp .eq 48, 3) := by decide +kernel
theorem dL_isWell_328 : decode cL_isWell 328 = .ok (.aload_n 0, 1) := by decide +kernel
theorem dL_isWell_329 : decode cL_isWell 329 = .ok (.iload 9, 2) := by decide +kernel
theorem dL_isWell_331 : decode cL_isWell 331 = .ok (.iconst 1, 1) := by decide +kernel
theorem dL_isWell_332 : decode cL_isWell 332 = .ok (.invokevirtual 91, 3) := by decide +kernel
theorem dL_isWell_335 : decode cL_isWell 335 = .ok (.aload_n 0, 1) := by decide +kernel
theorem dL_isWell_336 : decode cL_isWell 336 = .ok (.iconst 0, 1) := by decide +kernel
theorem dL_isWell_337 : decode cL_isWell 337 = .ok (.invokevirtual 24, 3) := by decide +kernel
theorem dL_isWell_340 : decode cL_isWell 340 = .ok (.if_icmp .gt 33, 3) := by decide +kernel
theorem dL_isWell_343 : decode cL_isWell 343 = .ok (.iload 10, 2) := by decide +kernel
theorem dL_isWell_345 : decode cL_isWell 345 = .ok (.iconst 2, 1) := by decide +kernel
theorem dL_isWell_346 : decode cL_isWell 346 = .ok (.if_icmp .ne 7, 3) := by decide +kernel
theorem dL_isWell_349 : decode cL_isWell 349 = .ok (.iconst 1, 1) := by decide +kernel
theorem dL_isWell_350 : decode cL_isWell 350 = .ok (.goto 4, 3) := by decide +kernel
theorem dL_isWell_353 : decode cL_isWell 353 = .ok (.iconst 0, 1) := by decide +kernel
theorem dL_isWell_354 : decode cL_isWell 354 = .ok (.iload 11, 2) := by decide +kernel
theorem dL_isWell_356 : decode cL_isWell 356 = .ok (.bipush (-6), 2) := by decide +kernel
theorem dL_isWell_358 : decode cL_isWell 358 = .ok (.if_icmp .ne 7, 3) := by decide +kernel
theorem dL_isWell_361 : decode cL_isWell 361 = .ok (.iconst 1, 1) := by decide +kernel
theorem dL_isWell_362 : decode cL_isWell 362 = .ok (.goto 4, 3) := by decide +kernel
theorem dL_isWell_365 : decode cL_isWell 365 = .ok (.iconst 0, 1) := by decide +kernel
theorem dL_isWell_366 : decode cL_isWell 366 = .ok (.if_icmp .ne 7, 3) := by decide +kernel
theorem dL_isWell_369 : decode cL_isWell 369 = .ok (.iconst 1, 1) := by decide +kernel
theorem dL_isWell_370 : decode cL_isWell 370 = .ok (.goto 4, 3) := by decide +kernel
theorem dL_isWell_373 : decode cL_isWell 373 = .ok (.iconst 0, 1) := by decide +kernel
theorem dL_isWell_374 : decode cL_isWell 374 = .ok (.istore_n 1, 1) := by decide +kernel
theorem dL_isWell_375 : decode cL_isWell 375 = .ok (.iload 10, 2) := by decide +kernel
theorem dL_isWell_377 : decode cL_isWell 377 = .ok (.iconst 2, 1) := by decide +kernel
theorem dL_isWell_378 : decode cL_isWell 378 = .ok (.if_icmp .ne 8, 3) := by decide +kernel
theorem dL_isWell_381 : decode cL_isWell 381 = .ok (.iload 8, 2) := by decide +kernel
theorem dL_isWell_383 : decode cL_isWell 383 = .ok (.goto 5, 3) := by decide +kernel
theorem dL_isWell_386 : decode cL_isWell 386 = .ok (.iload 10, 2) := by decide +kernel
theorem dL_isWell_388 : decode cL_isWell 388 = .ok (.istore 8, 2) := by decide +kernel
theorem dL_isWell_390 : decode cL_isWell 390 = .ok (.iinc 9 (-1), 3) := by decide +kernel
theorem dL_isWell_393 : decode cL_isWell 393 = .ok (.goto (-184), 3) := by decide +kernel
theorem dL_isWell_396 : decode cL_isWell 396 = .ok (.iload_n 1, 1) := by decide +kernel
theorem dL_isWell_397 : decode cL_isWell 397 = .ok (.ifCond .eq 157, 3) := by decide +kernel
theorem dL_isWell_400 : decode cL_isWell 400 = .ok (.iload 4, 2) := by decide +kernel
theorem dL_isWell_402 : decode cL_isWell 402 = .ok (.aload_n 0, 1) := by decide +kernel
theorem dL_isWell_403 : decode cL_isWell 403 = .ok (.iload_n 3, 1) := by decide +kernel
theorem dL_isWell_404 : decode cL_isWell 404 = .ok (.bipush 9, 2) := by decide +kernel
theorem dL_isWell_406 : decode cL_isWell 406 = .ok (.invokevirtual 15, 3) := by decide +kernel
theorem dL_isWell_409 : decode cL_isWell 409 = .ok (.if_icmp .ne 145, 3) := by decide +kernel
theorem dL_isWell_412 : decode cL_isWell 412 = .ok (.iload 5, 2) := by decide +kernel
theorem dL_isWell_414 : decode cL_isWell 414 = .ok (.aload_n 0, 1) := by decide +kernel
theorem dL_isWell_415 : decode cL_isWell 415 = .ok (.iload_n 3, 1) := by decide +kernel
theorem dL_isWell_416 : decode cL_isWell 416 = .ok (.bipush 10, 2) := by decide +kernel
theorem dL_isWell_418 : decode cL_isWell 418 = .ok (.invokevirtual 15, 3) := by decide +kernel
theorem dL_isWell_421 : decode cL_isWell 421 = .ok (.if_icmp .ne 133, 3) := by decide +kernel
theorem dL_isWell_424 : decode cL_isWell 424 = .ok (.iload 6, 2) := by decide +kernel
theorem dL_isWell_426 : decode cL_isWell 426 = .ok (.aload_n 0, 1) := by decide +kernel
theorem dL_isWell_427 : decode cL_isWell 427 = .ok (.iload_n 3, 1) := by decide +kernel
theorem dL_isWell_428 : decode cL_isWell 428 = .ok (.iconst 3, 1) := by decide +kernel
theorem dL_isWell_429 : decode cL_isWell 429 = .ok (.invokevirtual 15, 3) := by decide +kernel
theorem dL_isWell_432 : decode cL_isWell 432 = .ok (.if_icmp .ne 122, 3) := by decide +kernel
theorem dL_isWell_435 : decode cL_isWell 435 = .ok (.iload 7, 2) := by decide +kernel
theorem dL_isWell_437 : decode cL_isWell 437 = .ok (.aload_n 0, 1) := by decide +kernel
theorem dL_isWell_438 : decode cL_isWell 438 = .ok (.iload_n 3, 1) := by decide +kernel
theorem dL_isWell_439 : decode cL_isWell 439 = .ok (.bipush 12, 2) := by decide +kernel
theorem dL_isWell_441 : decode cL_isWell 441 = .ok (.invokevirtual 15, 3) := by decide +kernel
theorem dL_isWell_444 : decode cL_isWell 444 = .ok (.if_icmp .ne 110, 3) := by decide +kernel
theorem dL_isWell_447 : decode cL_isWell 447 = .ok (.aload_n 0, 1) := by decide +kernel
theorem dL_isWell_448 : decode cL_isWell 448 = .ok (.iload_n 3, 1) := by decide +kernel
theorem dL_isWell_449 : decode cL_isWell 449 = .ok (.iconst 2, 1) := by decide +kernel
theorem dL_isWell_450 : decode cL_isWell 450 = .ok (.invokevirtual 15, 3) := by decide +kernel
theorem dL_isWell_453 : decode cL_isWell 453 = .ok (.iconst 1, 1) := by decide +kernel
theorem dL_isWell_454 : decode cL_isWell 454 = .ok (.if_icmp .lt 100, 3) := by decide +kernel
theorem dL_isWell_457 : decode cL_isWell 457 = .ok (.aload_n 0, 1) := by decide +kernel
theorem dL_isWell_458 : decode cL_isWell 458 = .ok (.iload_n 3, 1) := by decide +kernel
theorem dL_isWell_459 : decode cL_isWell 459 = .ok (.iconst 2, 1) := by decide +kernel
theorem dL_isWell_460 : decode cL_isWell 460 = .ok (.invokevirtual 15, 3) := by decide +kernel
theorem dL_isWell_463 : decode cL_isWell 463 = .ok (.bipush 32, 2) := by decide +kernel
theorem dL_isWell_465 : decode cL_isWell 465 = .ok (.if_icmp .gt 89, 3) := by decide +kernel
theorem dL_isWell_468 : decode cL_isWell 468 = .ok (.aload_n 0, 1) := by decide +kernel
theorem dL_isWell_469 : decode cL_isWell 469 = .ok (.iload_n 3, 1) := by decide +kernel
theorem dL_isWell_470 : decode cL_isWell 470 = .ok (.iconst 4, 1) := by decide +kernel
theorem dL_isWell_471 : decode cL_isWell 471 = .ok (.invokevirtual 15, 3) := by decide +kernel
theorem dL_isWell_474 : decode cL_isWell 474 = .ok (.iconst 1, 1) := by decide +kernel
theorem dL_isWell_475 : decode cL_isWell 475 = .ok (.if_icmp .eq 13, 3) := by decide +kernel
theorem dL_isWell_478 : decode cL_isWell 478 = .ok (.aload_n 0, 1) := by decide +kernel
theorem dL_isWell_479 : decode cL_isWell 479 = .ok (.iload_n 3, 1) := by decide +kernel
theorem dL_isWell_480 : decode cL_isWell 480 = .ok (.bipush 11, 2) := by decide +kernel
theorem dL_isWell_482 : decode cL_isWell 482 = .ok (.invokevirtual 15, 3) := by decide +kernel
theorem dL_isWell_485 : decode cL_isWell 485 = .ok (.ifCond .ne 69, 3) := by decide +kernel
theorem dL_isWell_488 : decode cL_isWell 488 = .ok (.aload_n 0, 1) := by decide +kernel
theorem dL_isWell_489 : decode cL_isWell 489 = .ok (.iload_n 3, 1) := by decide +kernel
theorem dL_isWell_490 : decode cL_isWell 490 = .ok (.bipush 11, 2) := by decide +kernel
theorem dL_isWell_492 : decode cL_isWell 492 = .ok (.invokevirtual 15, 3) := by decide +kernel
theorem dL_isWell_495 : decode cL_isWell 495 = .ok (.aload_n 0, 1) := by decide +kernel
theorem dL_isWell_496 : decode cL_isWell 496 = .ok (.iload_n 3, 1) := by decide +kernel
theorem dL_isWell_497 : decode cL_isWell 497 = .ok (.bipush 7, 2) := by decide +kernel
theorem dL_isWell_499 : decode cL_isWell 499 = .ok (.invokevirtual 15, 3) := by decide +kernel
theorem dL_isWell_502 : decode cL_isWell 502 = .ok (.if_icmp .gt 52, 3) := by decide +kernel
theorem dL_isWell_505 : decode cL_isWell 505 = .ok (.aload_n 0, 1) := by decide +kernel
theorem dL_isWell_506 : decode cL_isWell 506 = .ok (.iload_n 3, 1) := by decide +kernel
theorem dL_isWell_507 : decode cL_isWell 507 = .ok (.invokevirtual 67, 3) := by decide +kernel
theorem dL_isWell_510 : decode cL_isWell 510 = .ok (.iconst 3, 1) := by decide +kernel
theorem dL_isWell_511 : decode cL_isWell 511 = .ok (.if_icmp .ne 7, 3) := by decide +kernel
theorem dL_isWell_514 : decode cL_isWell 514 = .ok (.iconst 1, 1) := by decide +kernel
theorem dL_isWell_515 : decode cL_isWell 515 = .ok (.goto 4, 3) := by decide +kernel
theorem dL_isWell_518 : decode cL_isWell 518 = .ok (.iconst 0, 1) := by decide +kernel
theorem dL_isWell_519 : decode cL_isWell 519 = .ok (.aload_n 0, 1) := by decide +kernel
theorem dL_isWell_520 : decode cL_isWell 520 = .ok (.iload_n 3, 1) := by decide +kernel
theorem dL_isWell_521 : decode cL_isWell 521 = .ok (.iconst 4, 1) := by decide +kernel
theorem dL_isWell_522 : decode cL_isWell 522 = .ok (.invokevirtual 15, 3) := by decide +kernel
theorem dL_isWell_525 : decode cL_isWell 525 = .ok (.ifCond .ne 21, 3) := by decide +kernel
theorem dL_isWell_528 : decode cL_isWell 528 = .ok (.aload_n 0, 1) := by decide +kernel
theorem dL_isWell_529 : decode cL_isWell 529 = .ok (.iload_n 3, 1) := by decide +kernel
theorem dL_isWell_530 : decode cL_isWell 530 = .ok (.iconst 5, 1) := by decide +kernel
theorem dL_isWell_531 : decode cL_isWell 531 = .ok (.invokevirtual 15, 3) := by decide +kernel
theorem dL_isWell_534 : decode cL_isWell 534 = .ok (.ifCond .ne 12, 3) := by decide +kernel
theorem dL_isWell_537 : decode cL_isWell 537 = .ok (.iload 6, 2) := by decide +kernel
theorem dL_isWell_539 : decode cL_isWell 539 = .ok (.ifCond .ne 7, 3) := by decide +kernel
theorem dL_isWell_542 : decode cL_isWell 542 = .ok (.iconst 1, 1) := by decide +kernel
theorem dL_isWell_543 : decode cL_isWell 543 = .ok (.goto 4, 3) := by decide +kernel
theorem dL_isWell_546 : decode cL_isWell 546 = .ok (.iconst 0, 1) := by decide +kernel
theorem dL_isWell_547 : decode cL_isWell 547 = .ok (.if_icmp .ne 7, 3) := by decide +kernel
theorem dL_isWell_550 : decode cL_isWell 550 = .ok (.iconst 1, 1) := by decide +kernel
theorem dL_isWell_551 : decode cL_isWell 551 = .ok (.goto 4, 3) := by decide +kernel
theorem dL_isWell_554 : decode cL_isWell 554 = .ok (.iconst 0, 1) := by decide +kernel
theorem dL_isWell_555 : decode cL_isWell 555 = .ok (.istore_n 1, 1) := by decide +kernel
theorem dL_isWell_556 : decode cL_isWell 556 = .ok (.iinc 3 1, 3) := by decide +kernel
theorem dL_isWell_559 : decode cL_isWell 559 = .ok (.goto (-381), 3) := by decide +kernel
theorem dL_isWell_562 : decode cL_isWell 562 = .ok (.iload_n 1, 1) := by decide +kernel
theorem dL_isWell_563 : decode cL_isWell 563 = .ok (.ireturn, 1) := by decide +kernel
theorem dL_law_0 : decode cL_law 0 = .ok (.new 10, 3) := by decide +kernel
theorem dL_law_3 : decode cL_law 3 = .ok (.dup, 1) := by decide +kernel
theorem dL_law_4 : decode cL_law 4 = .ok (.invokespecial 100, 3) := by decide +kernel
theorem dL_law_7 : decode cL_law 7 = .ok (.astore_n 1, 1) := by decide +kernel
theorem dL_law_8 : decode cL_law 8 = .ok (.new 10, 3) := by decide +kernel
theorem dL_law_11 : decode cL_law 11 = .ok (.dup, 1) := by decide +kernel
theorem dL_law_12 : decode cL_law 12 = .ok (.invokespecial 100, 3) := by decide +kernel
theorem dL_law_15 : decode cL_law 15 = .ok (.astore_n 2, 1) := by decide +kernel
theorem dL_law_16 : decode cL_law 16 = .ok (.iconst 1, 1) := by decide +kernel
theorem dL_law_17 : decode cL_law 17 = .ok (.istore_n 3, 1) := by decide +kernel
theorem dL_law_18 : decode cL_law 18 = .ok (.iconst 0, 1) := by decide +kernel
theorem dL_law_19 : decode cL_law 19 = .ok (.istore 4, 2) := by decide +kernel
theorem dL_law_21 : decode cL_law 21 = .ok (.iload 4, 2) := by decide +kernel
theorem dL_law_23 : decode cL_law 23 = .ok (.bipush 44, 2) := by decide +kernel
theorem dL_law_25 : decode cL_law 25 = .ok (.if_icmp .ge 57, 3) := by decide +kernel
theorem dL_law_28 : decode cL_law 28 = .ok (.iload_n 3, 1) := by decide +kernel
theorem dL_law_29 : decode cL_law 29 = .ok (.ifCond .eq 53, 3) := by decide +kernel
theorem dL_law_32 : decode cL_law 32 = .ok (.aload_n 1, 1) := by decide +kernel
theorem dL_law_33 : decode cL_law 33 = .ok (.aload_n 2, 1) := by decide +kernel
theorem dL_law_34 : decode cL_law 34 = .ok (.aload_n 0, 1) := by decide +kernel
theorem dL_law_35 : decode cL_law 35 = .ok (.iload 4, 2) := by decide +kernel
theorem dL_law_37 : decode cL_law 37 = .ok (.invokestatic 101, 3) := by decide +kernel
theorem dL_law_40 : decode cL_law 40 = .ok (.aload_n 0, 1) := by decide +kernel
theorem dL_law_41 : decode cL_law 41 = .ok (.iload 4, 2) := by decide +kernel
theorem dL_law_43 : decode cL_law 43 = .ok (.iconst 1, 1) := by decide +kernel
theorem dL_law_44 : decode cL_law 44 = .ok (.iadd, 1) := by decide +kernel
theorem dL_law_45 : decode cL_law 45 = .ok (.invokestatic 101, 3) := by decide +kernel
theorem dL_law_48 : decode cL_law 48 = .ok (.iconst 2, 1) := by decide +kernel
theorem dL_law_49 : decode cL_law 49 = .ok (.ishr, 1) := by decide +kernel
theorem dL_law_50 : decode cL_law 50 = .ok (.invokestatic 105, 3) := by decide +kernel
theorem dL_law_53 : decode cL_law 53 = .ok (.ifCond .eq 21, 3) := by decide +kernel
theorem dL_law_56 : decode cL_law 56 = .ok (.iload 4, 2) := by decide +kernel
theorem dL_law_58 : decode cL_law 58 = .ok (.iconst 4, 1) := by decide +kernel
theorem dL_law_59 : decode cL_law 59 = .ok (.irem, 1) := by decide +kernel
theorem dL_law_60 : decode cL_law 60 = .ok (.ifCond .gt 10, 3) := by decide +kernel
theorem dL_law_63 : decode cL_law 63 = .ok (.aload_n 1, 1) := by decide +kernel
theorem dL_law_64 : decode cL_law 64 = .ok (.invokestatic 109, 3) := by decide +kernel
theorem dL_law_67 : decode cL_law 67 = .ok (.ifCond .eq 7, 3) := by decide +kernel
theorem dL_law_70 : decode cL_law 70 = .ok (.iconst 1, 1) := by decide +kernel
theorem dL_law_71 : decode cL_law 71 = .ok (.goto 4, 3) := by decide +kernel
theorem dL_law_74 : decode cL_law 74 = .ok (.iconst 0, 1) := by decide +kernel
theorem dL_law_75 : decode cL_law 75 = .ok (.istore_n 3, 1) := by decide +kernel
theorem dL_law_76 : decode cL_law 76 = .ok (.iinc 4 1, 3) := by decide +kernel
theorem dL_law_79 : decode cL_law 79 = .ok (.goto (-58), 3) := by decide +kernel
theorem dL_law_82 : decode cL_law 82 = .ok (.iload_n 3, 1) := by decide +kernel
theorem dL_law_83 : decode cL_law 83 = .ok (.ifCond .eq 28, 3) := by decide +kernel
theorem dL_law_86 : decode cL_law 86 = .ok (.aload_n 1, 1) := by decide +kernel
theorem dL_law_87 : decode cL_law 87 = .ok (.invokestatic 109, 3) := by decide +kernel
theorem dL_law_90 : decode cL_law 90 = .ok (.ifCond .eq 21, 3) := by decide +kernel
theorem dL_law_93 : decode cL_law 93 = .ok (.aload_n 1, 1) := by decide +kernel
theorem dL_law_94 : decode cL_law 94 = .ok (.aload_n 2, 1) := by decide +kernel
theorem dL_law_95 : decode cL_law 95 = .ok (.aload_n 0, 1) := by decide +kernel
theorem dL_law_96 : decode cL_law 96 = .ok (.bipush 44, 2) := by decide +kernel
theorem dL_law_98 : decode cL_law 98 = .ok (.invokestatic 101, 3) := by decide +kernel
theorem dL_law_101 : decode cL_law 101 = .ok (.invokestatic 113, 3) := by decide +kernel
theorem dL_law_104 : decode cL_law 104 = .ok (.ifCond .eq 7, 3) := by decide +kernel
theorem dL_law_107 : decode cL_law 107 = .ok (.iconst 1, 1) := by decide +kernel
theorem dL_law_108 : decode cL_law 108 = .ok (.goto 4, 3) := by decide +kernel
theorem dL_law_111 : decode cL_law 111 = .ok (.iconst 0, 1) := by decide +kernel
theorem dL_law_112 : decode cL_law 112 = .ok (.ireturn, 1) := by decide +kernel
end
section
/-! The base: one list of words for all methods, states, contracts whose answer and world are told exactly, the rows that walk with them -/
def GW : List Cond := lw_tbl.filter goodWord
theorem gwm {w : Cond} (i : Nat) (h : lw_tbl[i]? = some w) (hg : goodWord w = true) : w ∈ GW := List.mem_filter.mpr ⟨List.mem_of_getElem? h, hg⟩
abbrev wsY (y : MethodName) (cc : ByteArray) (n : Nat) (ret : Option FieldType) : List Cond := .code y cc n ret :: GW
theorem goodY {Ts : List Cond} {z : MethodName} {cz : ByteArray} {nz : Nat} {rz : Option FieldType} (hT : ∀ w ∈ GW, w ∈ Ts) (h : Cond.code z cz nz rz ∈ GW) : GoodIn Ts (wsY z cz nz rz) := by
  intro w hw
  rcases List.mem_cons.mp hw with rfl | hw
  · exact ⟨hT _ h, good_of_word (List.mem_filter.mp h).2⟩
  · exact ⟨hT _ hw, good_of_word (List.mem_filter.mp hw).2⟩
def k_nest : Cond → Bool
  | .fieldLinkNest .. => true
  | .methodLinkNest .. => true
  | _ => false
def NWL : List Cond := tables_1.filter k_nest
theorem nwm {w : Cond} (i : Nat) (h : tables_1[i]? = some w) (hg : k_nest w = true) : w ∈ NWL := List.mem_filter.mpr ⟨List.mem_of_getElem? h, hg⟩
abbrev CS : Type := Nat → Nat → Int32
def st2 (u : CS) (c : Nat) (f : Nat → Int32) : CS := fun c' => if c' = c then f else u c'
abbrev tysG (k : Nat → ClassId) : List (ClassId × FieldType) := [(k 0, .int), (k 1, .object RX3), (k 2, .char), (k 3, .boolean), (k 4, .object RX0)]
def SN : Nat → String := fun j => match j with
  | 0 => "LEAST_VALUES"
  | 1 => "MOST_VALUES"
  | _ => "FIRST_VALUES"
def SVi : Nat → Nat → Int32 := fun j i => match j, i with
  | 0, 0 => 1
  | 0, 1 => 1
  | 0, _ => 0
  | 1, 0 => 32
  | 1, 1 => 16
  | 1, 2 => 1
  | 1, _ => 50
  | _, 0 => 16
  | _, 1 => 4
  | _, 2 => 0
  | _, _ => 6
def va_Stat (A : Nat → Prop) (U : State) : Prop := ∀ j : Nat, j < 3 → ∃ t : Nat, va_Z RX4 (SN j) "[I" (.ref t) A U U.heap ∧ va_T .int t 4 (fun i => .int (SVi j i)) A U U.heap
def GE (A : Nat → Prop) (U : State) : Prop := (∀ w ∈ NWL, va_Nw w U) ∧ va_AO RX3 U ∧ va_AO RX0 U ∧ va_Stat A U
theorem GE.step {A A1 : Nat → Prop} {s U : State} {locs : List Loc} (h : GE A s) (hW : s.WarmedH U.vm) (hS : va_S A s.heap U.heap locs) (hA : ∀ q, A1 q → A q) : GE A1 U := by
  obtain ⟨h1, h2, h3, h4⟩ := h
  refine ⟨fun w hw => ?_, h2.moved hW.alike, h3.moved hW.alike, fun j hj => ?_⟩
  · have hn := (List.mem_filter.mp hw).2
    have hz := h1 w hw
    cases w <;> first | (exact va_Nw.warmF hW hz) | (exact va_Nw.warmM hW hz) | (simp [k_nest] at hn; done)
  · obtain ⟨t, hz, ht⟩ := h4 j hj
    exact ⟨t, ((hz.moved hW.alike).kept (fun a ha hn => hS.2.1 a ha hn)).narrow hA, ((ht.moved hW.alike).kept (fun a ha hn => hS.2.1 a ha hn)).narrow hA⟩
theorem GE.blind {A : Nat → Prop} {U : State} (h : GE A U) (g : JFrame) (mk : MethodId) (a : Array Value) : GE A (U.calling g mk a) := by
  obtain ⟨h1, h2, h3, h4⟩ := h
  refine ⟨fun w hw => ?_, h2.moved (Vm.Alike.refl U.vm), h3.moved (Vm.Alike.refl U.vm), fun j hj => ?_⟩
  · have hn := (List.mem_filter.mp hw).2
    have hz := h1 w hw
    cases w <;> first | (exact va_Nw.same rfl rfl hz) | (simp [k_nest] at hn; done)
  · obtain ⟨t, hz, ht⟩ := h4 j hj
    exact ⟨t, hz.moved (Vm.Alike.refl U.vm), ht.moved (Vm.Alike.refl U.vm)⟩
/-! worlds by membership and by order -/
theorem wP_iff {D : va_G} {cl : List vw_C} {ws : va_W} {H : Heap} : va_P D cl ws H ↔ ∀ q ∈ ws, va_at D cl q H :=
  ⟨fun h q hq => by obtain ⟨k, hk⟩ := List.mem_iff_getElem?.mp hq; exact h k q hk, fun h k q hk => h q (List.mem_of_getElem? hk)⟩
theorem wD_iff {A : Nat → Prop} {ws : va_W} : va_D A ws ↔ (ws.map (·.1)).Nodup ∧ ∀ q ∈ ws, A q.1 := by
  constructor
  · rintro ⟨h1, h2⟩
    refine ⟨?_, fun q hq => by obtain ⟨k, hk⟩ := List.mem_iff_getElem?.mp hq; exact h2 k q hk⟩
    rw [List.Nodup, List.pairwise_iff_getElem]
    intro i j hi hj hij he
    have hi' : i < ws.length := by simpa using hi
    have hj' : j < ws.length := by simpa using hj
    have := h1 i j ws[i] ws[j] (List.getElem?_eq_getElem hi') (List.getElem?_eq_getElem hj') (by simpa using he)
    omega
  · rintro ⟨h1, h2⟩
    refine ⟨fun i j p q hp hq he => ?_, fun k q hk => h2 q (List.mem_of_getElem? hk)⟩
    obtain ⟨hi, rfl⟩ := List.getElem?_eq_some_iff.mp hp
    obtain ⟨hj, rfl⟩ := List.getElem?_eq_some_iff.mp hq
    rw [List.Nodup, List.pairwise_iff_getElem] at h1
    rcases Nat.lt_trichotomy i j with h | h | h
    · exact absurd he (by have := h1 i j (by simpa using hi) (by simpa using hj) h; simpa using this)
    · exact h
    · exact absurd he.symm (by have := h1 j i (by simpa using hj) (by simpa using hi) h; simpa using this)
theorem wP_perm {D : va_G} {cl : List vw_C} {ws ws' : va_W} {H : Heap} (hp : ws.Perm ws') (h : va_P D cl ws H) : va_P D cl ws' H := wP_iff.mpr fun q hq => wP_iff.mp h q (hp.mem_iff.mpr hq)
theorem wD_perm {A : Nat → Prop} {ws ws' : va_W} (hp : ws.Perm ws') (h : va_D A ws) : va_D A ws' := by
  rw [wD_iff] at h ⊢
  exact ⟨((hp.map (·.1)).nodup_iff).mp h.1, fun q hq => h.2 q (hp.mem_iff.mpr hq)⟩
theorem w_idx {α : Type} {l l2 : List α} {n : Nat} (is : List Nat) (hl : l.length = n) (h1 : is.Perm (List.range n)) (h2 : is.map (fun i => l[i]?) = l2.map some) : l.Perm l2 := by
  subst hl
  have e1 : (List.range l.length).map (fun i => l[i]?) = l.map some := by
    apply List.ext_getElem?
    intro i
    by_cases h : i < l.length
    · simp [h]
    · simp [h]
  have e2 : (l.map some).Perm (l2.map some) := by
    rw [← e1, ← h2]
    exact (h1.map _).symm
  have e3 := e2.filterMap id
  simpa [List.filterMap_map] using e3
/-- the frame rule, by order -/
theorem w_frame {A : Nat → Prop} {D : va_G} {cl : List vw_C} {w w' wc wr w1 : va_W} {H H1 : Heap} (hP : va_P D cl w H) (hD : va_D A w) (hp : w.Perm (wr ++ wc)) (hp' : (wr ++ w1).Perm w')
    (hk : ∀ q : Nat, q < H.size → ¬ va_A wc H.size q → H1[q]? = H[q]?) (hF : ∀ q, va_A wc H.size q → A q) (hP1 : va_P D cl w1 H1) (hD1 : va_D (va_A wc H.size) w1) : va_P D cl w' H1 ∧ va_D A w' := by
  have hPw := wP_iff.mp (wP_perm hp hP)
  have hDw := wD_iff.mp (wD_perm hp hD)
  rw [List.map_append, List.nodup_append] at hDw
  obtain ⟨⟨hr, hc, hrc⟩, hA⟩ := hDw
  have hlt : ∀ q ∈ wr, q.1 < H.size := fun q hq => (hPw q (List.mem_append_left _ hq)).lt
  have hoff : ∀ q ∈ wr, ¬ va_A wc H.size q.1 := by
    rintro q hq (⟨k, e, hke⟩ | h)
    · exact hrc _ (List.mem_map_of_mem hq) _ (List.mem_map_of_mem (List.mem_of_getElem? hke)) rfl
    · exact absurd (hlt q hq) (Nat.not_lt.mpr h)
  refine ⟨wP_perm hp' (wP_iff.mpr fun q hq => ?_), wD_perm hp' (wD_iff.mpr ⟨?_, fun q hq => ?_⟩)⟩
  · rcases List.mem_append.mp hq with h | h
    · exact (hPw q (List.mem_append_left _ h)).kept (hk _ (hlt q h) (hoff q h))
    · exact wP_iff.mp hP1 q h
  · rw [List.map_append, List.nodup_append]
    refine ⟨hr, (wD_iff.mp hD1).1, ?_⟩
    intro a ha b hb e
    obtain ⟨q, hq, rfl⟩ := List.mem_map.mp ha
    obtain ⟨q2, hq2, rfl⟩ := List.mem_map.mp hb
    exact hoff q hq (e ▸ (wD_iff.mp hD1).2 q2 hq2)
  · rcases List.mem_append.mp hq with h | h
    · exact hA q (List.mem_append_left _ h)
    · exact hF _ ((wD_iff.mp hD1).2 q h)
theorem w_freeA {A : Nat → Prop} {w wc wr : va_W} {H0 H : Heap} {locs : List Loc} (hD : va_D A w) (hp : w.Perm (wr ++ wc)) (hS : va_S A H0 H locs) (hA : ∀ q, H0.size ≤ q → A q) : ∀ q, va_A wc H.size q → A q := by
  rintro q (⟨k, e, hke⟩ | h)
  · exact (wD_iff.mp (wD_perm hp hD)).2 _ (List.mem_append_right _ (List.mem_of_getElem? hke))
  · exact hA q (Nat.le_trans hS.1 h)
/-! contracts -/
abbrev rmD (d : Nat) : Room := { frames := d, cells := 0, slots := 0, locals := d * 35 }
def kPre (D : va_G) (k : Nat → ClassId) (w0 : va_W) (sz : Nat) (U : State) : Prop := U.heap.size = sz ∧ va_P D vwCl w0 U.heap ∧ va_K D vwCl (tysG k) U ∧ va_D (fun _ => True) w0 ∧ GE (va_A w0 sz) U
def kPost (D : va_G) (k : Nat → ClassId) (w0 w1 : va_W) (sz : Nat) (t : State) : Prop := va_P D vwCl w1 t.heap ∧ va_K D vwCl (tysG k) t ∧ va_D (va_A w0 sz) w1
/-- a method that answers the int r, and makes of the world w0 the world w1 -/
def mI (l : Launch) (y : MethodName) (ws : List Cond) (d : Nat) (D : va_G) (k : Nat → ClassId) (av : List Value) (w0 w1 : va_W) (r : Int32) : Prop := ∀ sz : Nat, Met l y ws (rmD d) (va_Pc av (kPre D k w0 sz)) (va_Qi (fun (r' : Int32) (_ : Unit) => r' = r) (fun _ => kPost D k w0 w1 sz) (va_A w0 sz)) 0 0 (va_A w0 sz)
/-- a method that answers nothing, and makes of the world w0 the world w1 -/
def mV (l : Launch) (y : MethodName) (ws : List Cond) (d : Nat) (D : va_G) (k : Nat → ClassId) (av : List Value) (w0 w1 : va_W) : Prop := ∀ sz : Nat, Met l y ws (rmD d) (va_Pc av (kPre D k w0 sz)) (va_Qv (fun (_ : Unit) => True) (fun _ => kPost D k w0 w1 sz) (va_A w0 sz)) 0 0 (va_A w0 sz)
def KX (p : Program) (s : State) (m : MethodId) (args : Array Value) (meth : Method) (c : Code) (cc : ByteArray) (nL : Nat) (Ts : List Cond) (own : String) (D : va_G) (k : Nat → ClassId) (A : Nat → Prop) : Prop :=
  p.tables.exec = Jvm.exec ∧ c.code = cc ∧ c.maxLocals = nL ∧ s.vm.findClass own = some m.cls ∧ (∀ w ∈ Ts, w.before args s = true) ∧ (∀ w ∈ GW, w ∈ Ts) ∧ meth.locks = false ∧ va_K D vwCl (tysG k) s ∧ GE A s ∧ (∀ q, s.heap.size ≤ q → A q)
def KW (D : va_G) (A : Nat → Prop) (s : State) (w : va_W) (H : Heap) (locs : List Loc) : Prop := va_P D vwCl w H ∧ va_D A w ∧ va_S A s.heap H locs
theorem KW.eq {D : va_G} {A : Nat → Prop} {s : State} {w w' : va_W} {H : Heap} {locs : List Loc} (h : KW D A s w H locs) (e : w = w') : KW D A s w' H locs := e ▸ h
theorem KW.perm {D : va_G} {A : Nat → Prop} {s : State} {w w' : va_W} {H : Heap} {locs : List Loc} (h : KW D A s w H locs) (e : w.Perm w') : KW D A s w' H locs := ⟨wP_perm e h.1, wD_perm e h.2.1, h.2.2⟩
theorem mI_intro {l : Launch} {y : MethodName} {cc : ByteArray} {nL d : Nat} {ret : Option FieldType} {D : va_G} {k : Nat → ClassId} {av : List Value} {w0 w1 : va_W} {r : Int32} (hy : plainName y.cls = true) (hn : (lg_sl av).length ≤ nL) (hr : ret = some .int ∨ (ret = some .boolean ∧ narrow .boolean (.int r) = .int r))
    (body : ∀ (p : Program) (e : Env) (s : State) (m : MethodId) (args : Array Value) (below : List Frame) (meth : Method) (c : Code) (A : Nat → Prop) (Q : State → Prop) (ls : Array Slot),
      KX p s m args meth c cc nL (wsY y cc nL ret) y.cls D k A → KW D A s w0 s.heap [] → lv_has ls nL (lv_args 0 av) →
      (∀ (w : va_W) (H : Heap) (locs : List Loc) (pc : Nat) (ls : Array Slot) (v : Int32), KW D A s w H locs → decode cc pc = .ok (.ireturn, 1) → v = r → w = w1 → W p l e (rmD d) s m args below meth c H locs 0 0 Q (F0 m pc ls [.int v])) →
      W p l e (rmD d) s m args below meth c s.heap [] 0 0 Q (F0 m 0 ls [])) :
    mI l y (wsY y cc nL ret) d D k av w0 w1 r := by
  intro sz
  refine Met.ofW (cc := cc) (maxL := nL) (ret := ret) hy rfl ?_
  intro p e s m args below meth c s₁ B hml hv
  obtain ⟨rfl, hsz, hP, hK, hD0, hG⟩ := hv
  subst hsz
  rw [lg_entry_eq]
  refine body p e s m _ below meth c (va_A w0 s.heap.size) _ _ ⟨B.exec, B.bytes, hml, findClass_of_methodNamed B.named, atoms_spec (ws := wsY y cc nL ret) B.pre, fun w hw => List.mem_cons_of_mem _ hw, B.notSynchronized, hK, hG, fun q h => Or.inr h⟩ ⟨hP, hD0.self, va_S.rf⟩ (lv_entry av hn) ?_
  rintro w H locs pc ls v ⟨hP, hD, hS⟩ hdg rfl rfl
  have hq : ∀ t : State, t.heap = H → s.WarmedH t.vm → va_Qi (fun (r' : Int32) (_ : Unit) => r' = v) (fun _ => kPost D k w0 w s.heap.size) (va_A w0 s.heap.size) av.toArray s (.returned (some (.int v))) t := fun t ht hW => ⟨⟨v, (), rfl, rfl, by rw [ht]; exact hP, va_K.moved hW.alike hK, hD⟩, hS.F ht⟩
  have hlocks := B.notSynchronized
  rcases hr with hr | ⟨hr, hnr⟩
  · exact W.iret B.exec B.bytes (B.returns.trans hr) hq hS.2.2 hdg hlocks
  · exact W.zret B.exec B.bytes (B.returns.trans hr) hnr hq hS.2.2 hdg hlocks
theorem mV_intro {l : Launch} {y : MethodName} {cc : ByteArray} {nL d : Nat} {D : va_G} {k : Nat → ClassId} {av : List Value} {w0 w1 : va_W} (hy : plainName y.cls = true) (hn : (lg_sl av).length ≤ nL)
    (body : ∀ (p : Program) (e : Env) (s : State) (m : MethodId) (args : Array Value) (below : List Frame) (meth : Method) (c : Code) (A : Nat → Prop) (Q : State → Prop) (ls : Array Slot),
      KX p s m args meth c cc nL (wsY y cc nL none) y.cls D k A → KW D A s w0 s.heap [] → lv_has ls nL (lv_args 0 av) →
      (∀ (w : va_W) (H : Heap) (locs : List Loc) (pc : Nat) (ls : Array Slot), KW D A s w H locs → decode cc pc = .ok (.return_, 1) → w = w1 → W p l e (rmD d) s m args below meth c H locs 0 0 Q (F0 m pc ls [])) →
      W p l e (rmD d) s m args below meth c s.heap [] 0 0 Q (F0 m 0 ls [])) :
    mV l y (wsY y cc nL none) d D k av w0 w1 := by
  intro sz
  refine Met.ofW (cc := cc) (maxL := nL) (ret := none) hy rfl ?_
  intro p e s m args below meth c s₁ B hml hv
  obtain ⟨rfl, hsz, hP, hK, hD0, hG⟩ := hv
  subst hsz
  rw [lg_entry_eq]
  refine body p e s m _ below meth c (va_A w0 s.heap.size) _ _ ⟨B.exec, B.bytes, hml, findClass_of_methodNamed B.named, atoms_spec (ws := wsY y cc nL none) B.pre, fun w hw => List.mem_cons_of_mem _ hw, B.notSynchronized, hK, hG, fun q h => Or.inr h⟩ ⟨hP, hD0.self, va_S.rf⟩ (lv_entry av hn) ?_
  rintro w H locs pc ls ⟨hP, hD, hS⟩ hdg rfl
  have hq : ∀ t : State, t.heap = H → s.WarmedH t.vm → va_Qv (fun (_ : Unit) => True) (fun _ => kPost D k w0 w s.heap.size) (va_A w0 s.heap.size) av.toArray s (.returned none) t := fun t ht hW => ⟨⟨(), rfl, trivial, by rw [ht]; exact hP, va_K.moved hW.alike hK, hD⟩, hS.F ht⟩
  have hlocks := B.notSynchronized
  exact W.vret B.exec B.bytes B.returns hq hS.2.2 hdg hlocks
end
section
/-! The rows: fields, arrays, calls, over one bundle of what stays (KX) and one of the world (KW) -/
section
variable {p : Program} {l : Launch} {e : Env} {R : Room} {s : State} {m : MethodId} {args : Array Value} {below : List Frame} {meth : Method} {c : Code} {H : Heap} {locs : List Loc} {cells slots : Nat} {Q : State → Prop} {cc : ByteArray} {nL : Nat} {Ts : List Cond} {own : String} {D : va_G} {k : Nat → ClassId} {A : Nat → Prop} {w w' : va_W} {pc : Nat} {ls : Array Slot} {rest : List Value} {a : Nat} {index : Nat}
theorem KX.hx (X : KX p s m args meth c cc nL Ts own D k A) : p.tables.exec = Jvm.exec := X.1
theorem KX.hb (X : KX p s m args meth c cc nL Ts own D k A) : c.code = cc := X.2.1
theorem KX.hml (X : KX p s m args meth c cc nL Ts own D k A) : c.maxLocals = nL := X.2.2.1
theorem KX.hown (X : KX p s m args meth c cc nL Ts own D k A) : s.vm.findClass own = some m.cls := X.2.2.2.1
theorem KX.hts (X : KX p s m args meth c cc nL Ts own D k A) : ∀ w ∈ Ts, w.before args s = true := X.2.2.2.2.1
theorem KX.hin (X : KX p s m args meth c cc nL Ts own D k A) : ∀ w ∈ GW, w ∈ Ts := X.2.2.2.2.2.1
theorem KX.hK (X : KX p s m args meth c cc nL Ts own D k A) : va_K D vwCl (tysG k) s := X.2.2.2.2.2.2.2.1
theorem KX.hG (X : KX p s m args meth c cc nL Ts own D k A) : GE A s := X.2.2.2.2.2.2.2.2.1
theorem KX.hA (X : KX p s m args meth c cc nL Ts own D k A) : ∀ q, s.heap.size ≤ q → A q := X.2.2.2.2.2.2.2.2.2
theorem KX.wd (X : KX p s m args meth c cc nL Ts own D k A) {q : Cond} (h : q ∈ GW) : q.before args s = true := X.hts q (X.hin q h)
theorem KX.nw (X : KX p s m args meth c cc nL Ts own D k A) {q : Cond} (h : q ∈ NWL) (ht : q.onTables = true) : q.before args s = true := (X.hG.1 q h).use ht
theorem k_get (X : KX p s m args meth c cc nL Ts own D k A) (hW : KW D A s w H locs) {C : String} {T : u_T} {N ci : Nat} (hg : ∀ q ∈ u_ws C T N, q ∈ GW) (hc : vwCl[ci]? = some (C, T, N)) (kf : Nat) (hk : kf < N) (hlink : Cond.fieldLink own index C (T kf).2.1 (T kf).2.2.1 ∈ GW) (hcl : (T kf).1 = C) (q0 : Nat) {fs : List Value} (he : w[q0]? = some (a, .inr (ci, fs))) {v : Value} (hv : fs[kf]? = some v) (hdg : decode cc pc = .ok (.getfield index, 3))
    (kk : W p l e R s m args below meth c H locs cells slots Q (F0 m (pc + 3) ls (v :: rest))) : W p l e R s m args below meth c H locs cells slots Q (F0 m pc ls (.ref a :: rest)) :=
  va_get X.hx X.hb X.hts (fun q h => X.hin q (hg q h)) X.hown X.hK hW.1 q0 he hc kf hk (X.wd hlink) (fun _ h => by rw [hcl] at h; exact h) hv hdg kk
theorem k_getN (X : KX p s m args meth c cc nL Ts own D k A) (hW : KW D A s w H locs) {C host : String} {T : u_T} {N ci : Nat} (hg : ∀ q ∈ u_ws C T N, q ∈ GW) (hc : vwCl[ci]? = some (C, T, N)) (kf : Nat) (hk : kf < N) (hlink : Cond.fieldLinkNest own index C (T kf).2.1 (T kf).2.2.1 host ∈ NWL) (hcl : (T kf).1 = C) (q0 : Nat) {fs : List Value} (he : w[q0]? = some (a, .inr (ci, fs))) {v : Value} (hv : fs[kf]? = some v) (hdg : decode cc pc = .ok (.getfield index, 3))
    (kk : W p l e R s m args below meth c H locs cells slots Q (F0 m (pc + 3) ls (v :: rest))) : W p l e R s m args below meth c H locs cells slots Q (F0 m pc ls (.ref a :: rest)) :=
  va_getN X.hx X.hb X.hts (fun q h => X.hin q (hg q h)) X.hown X.hK hW.1 q0 he hc kf hk (X.nw hlink rfl) (fun _ h => by rw [hcl] at h; exact h) hv hdg kk
theorem k_put (X : KX p s m args meth c cc nL Ts own D k A) (hW : KW D A s w H locs) {C : String} {T : u_T} {N ci : Nat} (hg : ∀ q ∈ u_ws C T N, q ∈ GW) (hc : vwCl[ci]? = some (C, T, N)) {ty0 : Nat → FieldType} (hty : ∀ j, j < N → parseFieldDescriptor (T j).2.2.1 = some (ty0 j)) (hnm : ∀ a, a < N → ∀ b, b < N → a ≠ b → (T a).2.1 ≠ (T b).2.1) (kf : Nat) (hk : kf < N) (hlink : Cond.fieldLink own index C (T kf).2.1 (T kf).2.2.1 ∈ GW) (hcl : (T kf).1 = C) (hfin : (T kf).2.2.2 = false) (q0 : Nat) {fs : List Value} (he : w[q0]? = some (a, .inr (ci, fs))) {v : Value} (hn : narrow (ty0 kf) v = v) (hfit : fits (ty0 kf) v = true) (hl : kf < fs.length) (hdg : decode cc pc = .ok (.putfield index, 3)) (hw' : w.set q0 (a, .inr (ci, fs.set kf v)) = w')
    (kk : ∀ (H1 : Heap) (locs1 : List Loc), KW D A s w' H1 locs1 → W p l e R s m args below meth c H1 locs1 cells slots Q (F0 m (pc + 3) ls rest)) : W p l e R s m args below meth c H locs cells slots Q (F0 m pc ls (v :: .ref a :: rest)) :=
  va_put X.hx X.hb X.hts (fun q h => X.hin q (hg q h)) ty0 hty hnm X.hown X.hK hW.1 hW.2.1 hW.2.2 q0 he hc kf hk (X.wd hlink) (fun _ h => by rw [hcl] at h; exact h) hfin (hty kf hk) hn hfit hl hdg (fun H1 locs1 h1 h2 h3 => kk H1 locs1 (by rw [hw'] at h1 h2; exact ⟨h1, h2, h3⟩))
theorem k_putN (X : KX p s m args meth c cc nL Ts own D k A) (hW : KW D A s w H locs) {C host : String} {T : u_T} {N ci : Nat} (hg : ∀ q ∈ u_ws C T N, q ∈ GW) (hc : vwCl[ci]? = some (C, T, N)) {ty0 : Nat → FieldType} (hty : ∀ j, j < N → parseFieldDescriptor (T j).2.2.1 = some (ty0 j)) (hnm : ∀ a, a < N → ∀ b, b < N → a ≠ b → (T a).2.1 ≠ (T b).2.1) (kf : Nat) (hk : kf < N) (hlink : Cond.fieldLinkNest own index C (T kf).2.1 (T kf).2.2.1 host ∈ NWL) (hcl : (T kf).1 = C) (hfin : (T kf).2.2.2 = false) (q0 : Nat) {fs : List Value} (he : w[q0]? = some (a, .inr (ci, fs))) {v : Value} (hn : narrow (ty0 kf) v = v) (hfit : fits (ty0 kf) v = true) (hl : kf < fs.length) (hdg : decode cc pc = .ok (.putfield index, 3)) (hw' : w.set q0 (a, .inr (ci, fs.set kf v)) = w')
    (kk : ∀ (H1 : Heap) (locs1 : List Loc), KW D A s w' H1 locs1 → W p l e R s m args below meth c H1 locs1 cells slots Q (F0 m (pc + 3) ls rest)) : W p l e R s m args below meth c H locs cells slots Q (F0 m pc ls (v :: .ref a :: rest)) :=
  va_putN X.hx X.hb X.hts (fun q h => X.hin q (hg q h)) ty0 hty hnm X.hown X.hK hW.1 hW.2.1 hW.2.2 q0 he hc kf hk (X.nw hlink rfl) (fun _ h => by rw [hcl] at h; exact h) hfin (hty kf hk) hn hfit hl hdg (fun H1 locs1 h1 h2 h3 => kk H1 locs1 (by rw [hw'] at h1 h2; exact ⟨h1, h2, h3⟩))
theorem k_in {i : Int32} {j n : Nat} (hi : i = nI j) (hj : j < n) (hn : n < 2 ^ 31) : vp_in i n ∧ i.toNatClampNeg = j := by
  subst hi; exact ⟨vp_in_nI hj hn, nI_clamp (by omega)⟩
theorem k_iald (X : KX p s m args meth c cc nL Ts own D k A) (hW : KW D A s w H locs) (q0 : Nat) {n : Nat} {f : Nat → Int32} (he : w[q0]? = some (a, .inl (k 0, n, .inl f))) {i v : Int32} {j : Nat} (hi : i = nI j) (hj : j < n) (hn : n < 2 ^ 31) (hv : f j = v) (hdg : decode cc pc = .ok (.iaload, 1))
    (kk : W p l e R s m args below meth c H locs cells slots Q (F0 m (pc + 1) ls (.int v :: rest))) : W p l e R s m args below meth c H locs cells slots Q (F0 m pc ls (.int i :: .ref a :: rest)) := by
  obtain ⟨h1, h2⟩ := k_in hi hj hn
  exact va_iald X.hx X.hb X.hK hW.1 q0 0 he rfl h1 hdg (by rw [h2, hv]; exact kk)
theorem k_cald (X : KX p s m args meth c cc nL Ts own D k A) (hW : KW D A s w H locs) (q0 : Nat) {n : Nat} {f : Nat → Int32} (he : w[q0]? = some (a, .inl (k 2, n, .inl f))) {i v : Int32} {j : Nat} (hi : i = nI j) (hj : j < n) (hn : n < 2 ^ 31) (hv : f j = v) (hdg : decode cc pc = .ok (.caload, 1))
    (kk : W p l e R s m args below meth c H locs cells slots Q (F0 m (pc + 1) ls (.int v :: rest))) : W p l e R s m args below meth c H locs cells slots Q (F0 m pc ls (.int i :: .ref a :: rest)) := by
  obtain ⟨h1, h2⟩ := k_in hi hj hn
  exact va_cald X.hx X.hb X.hK hW.1 q0 2 he rfl h1 hdg (by rw [h2, hv]; exact kk)
theorem k_zald (X : KX p s m args meth c cc nL Ts own D k A) (hW : KW D A s w H locs) (q0 : Nat) {n : Nat} {f : Nat → Int32} (he : w[q0]? = some (a, .inl (k 3, n, .inl f))) {i v : Int32} {j : Nat} (hi : i = nI j) (hj : j < n) (hn : n < 2 ^ 31) (hv : f j = v) (hdg : decode cc pc = .ok (.baload, 1))
    (kk : W p l e R s m args below meth c H locs cells slots Q (F0 m (pc + 1) ls (.int v :: rest))) : W p l e R s m args below meth c H locs cells slots Q (F0 m pc ls (.int i :: .ref a :: rest)) := by
  obtain ⟨h1, h2⟩ := k_in hi hj hn
  exact va_zald X.hx X.hb X.hK hW.1 q0 3 he rfl h1 hdg (by rw [h2, hv]; exact kk)
theorem k_aald (X : KX p s m args meth c cc nL Ts own D k A) (hW : KW D A s w H locs) (q0 t0 : Nat) {cA : ClassId} {C : String} {n : Nat} {f : Nat → Option Nat} (he : w[q0]? = some (a, .inl (cA, n, .inr (.inr (.inr (.inr f)))))) (ht : (tysG k)[t0]? = some (cA, .object C)) {i : Int32} {j b : Nat} (hi : i = nI j) (hj : j < n) (hn : n < 2 ^ 31) (hv : f j = some b) (hdg : decode cc pc = .ok (.aaload, 1))
    (kk : W p l e R s m args below meth c H locs cells slots Q (F0 m (pc + 1) ls (.ref b :: rest))) : W p l e R s m args below meth c H locs cells slots Q (F0 m pc ls (.int i :: .ref a :: rest)) := by
  obtain ⟨h1, h2⟩ := k_in hi hj hn
  exact va_aldq X.hx X.hb X.hK hW.1 q0 t0 he ht h1 hdg (by rw [h2, hv]; exact kk)
theorem k_iast (X : KX p s m args meth c cc nL Ts own D k A) (hW : KW D A s w H locs) (q0 : Nat) {n : Nat} {f : Nat → Int32} (he : w[q0]? = some (a, .inl (k 0, n, .inl f))) {i x : Int32} {j : Nat} (hi : i = nI j) (hj : j < n) (hn : n < 2 ^ 31) (hdg : decode cc pc = .ok (.iastore, 1)) (hw' : w.set q0 (a, .inl (k 0, n, .inl (upd f j x))) = w')
    (kk : ∀ (H1 : Heap) (locs1 : List Loc), KW D A s w' H1 locs1 → W p l e R s m args below meth c H1 locs1 cells slots Q (F0 m (pc + 1) ls rest)) : W p l e R s m args below meth c H locs cells slots Q (F0 m pc ls (.int x :: .int i :: .ref a :: rest)) := by
  obtain ⟨h1, h2⟩ := k_in hi hj hn
  exact va_iast X.hx X.hb X.hK hW.1 hW.2.1 hW.2.2 q0 0 he rfl h1 hdg (fun H1 locs1 g1 g2 g3 => kk H1 locs1 (by rw [h2, hw'] at g1 g2; exact ⟨g1, g2, g3⟩))
theorem k_cast (X : KX p s m args meth c cc nL Ts own D k A) (hW : KW D A s w H locs) (q0 : Nat) {n : Nat} {f : Nat → Int32} (he : w[q0]? = some (a, .inl (k 2, n, .inl f))) {i x x' : Int32} {j : Nat} (hi : i = nI j) (hj : j < n) (hn : n < 2 ^ 31) (hx : vp_nar .char x = x') (hdg : decode cc pc = .ok (.castore, 1)) (hw' : w.set q0 (a, .inl (k 2, n, .inl (upd f j x'))) = w')
    (kk : ∀ (H1 : Heap) (locs1 : List Loc), KW D A s w' H1 locs1 → W p l e R s m args below meth c H1 locs1 cells slots Q (F0 m (pc + 1) ls rest)) : W p l e R s m args below meth c H locs cells slots Q (F0 m pc ls (.int x :: .int i :: .ref a :: rest)) := by
  obtain ⟨h1, h2⟩ := k_in hi hj hn
  exact va_cast X.hx X.hb X.hK hW.1 hW.2.1 hW.2.2 q0 2 he rfl h1 hdg (fun H1 locs1 g1 g2 g3 => kk H1 locs1 (by rw [h2, hx, hw'] at g1 g2; exact ⟨g1, g2, g3⟩))
theorem k_zast (X : KX p s m args meth c cc nL Ts own D k A) (hW : KW D A s w H locs) (q0 : Nat) {n : Nat} {f : Nat → Int32} (he : w[q0]? = some (a, .inl (k 3, n, .inl f))) {i x x' : Int32} {j : Nat} (hi : i = nI j) (hj : j < n) (hn : n < 2 ^ 31) (hx : vp_nar .boolean x = x') (hdg : decode cc pc = .ok (.bastore, 1)) (hw' : w.set q0 (a, .inl (k 3, n, .inl (upd f j x'))) = w')
    (kk : ∀ (H1 : Heap) (locs1 : List Loc), KW D A s w' H1 locs1 → W p l e R s m args below meth c H1 locs1 cells slots Q (F0 m (pc + 1) ls rest)) : W p l e R s m args below meth c H locs cells slots Q (F0 m pc ls (.int x :: .int i :: .ref a :: rest)) := by
  obtain ⟨h1, h2⟩ := k_in hi hj hn
  exact va_zast X.hx X.hb X.hK hW.1 hW.2.1 hW.2.2 q0 3 he rfl h1 hdg (fun H1 locs1 g1 g2 g3 => kk H1 locs1 (by rw [h2, hx, hw'] at g1 g2; exact ⟨g1, g2, g3⟩))
theorem k_alen (X : KX p s m args meth c cc nL Ts own D k A) (hW : KW D A s w H locs) (q0 t0 : Nat) {cA : ClassId} {x : vp_A} (he : w[q0]? = some (a, .inl (cA, x))) {ty : FieldType} (ht : (tysG k)[t0]? = some (cA, ty)) {v : Int32} (hv : nI x.1 = v) (hdg : decode cc pc = .ok (.arraylength, 1))
    (kk : W p l e R s m args below meth c H locs cells slots Q (F0 m (pc + 1) ls (.int v :: rest))) : W p l e R s m args below meth c H locs cells slots Q (F0 m pc ls (.ref a :: rest)) :=
  va_alen X.hx X.hb X.hK hW.1 q0 t0 he ht hv hdg kk
theorem k_top {x y : Int32} (h : x = y) (kk : W p l e R s m args below meth c H locs cells slots Q (F0 m pc ls (.int y :: rest))) : W p l e R s m args below meth c H locs cells slots Q (F0 m pc ls (.int x :: rest)) := h ▸ kk
/-! a static array of four ints: its address, its length, its places -/
theorem k_gets (X : KX p s m args meth c cc nL Ts own D k A) (hW : KW D A s w H locs) (j : Nat) (hj : j < 3) (hlink : Cond.fieldLink own index RX4 (SN j) "[I" ∈ GW) (hdg : decode cc pc = .ok (.getstatic index, 3))
    (kk : ∀ t : Nat, va_T .int t 4 (fun i => .int (SVi j i)) A s s.heap → W p l e R s m args below meth c H locs cells slots Q (F0 m (pc + 3) ls (.ref t :: rest))) : W p l e R s m args below meth c H locs cells slots Q (F0 m pc ls rest) := by
  obtain ⟨t, hz, ht⟩ := X.hG.2.2.2 j hj
  exact va_gets X.hx X.hb hz hW.2.2 X.hown (X.wd hlink) (fun _ h => h) hdg (kk t ht)
theorem k_getsN (X : KX p s m args meth c cc nL Ts own D k A) (hW : KW D A s w H locs) {host : String} (j : Nat) (hj : j < 3) (hlink : Cond.fieldLinkNest own index RX4 (SN j) "[I" host ∈ NWL) (hdg : decode cc pc = .ok (.getstatic index, 3))
    (kk : ∀ t : Nat, va_T .int t 4 (fun i => .int (SVi j i)) A s s.heap → W p l e R s m args below meth c H locs cells slots Q (F0 m (pc + 3) ls (.ref t :: rest))) : W p l e R s m args below meth c H locs cells slots Q (F0 m pc ls rest) := by
  obtain ⟨t, hz, ht⟩ := X.hG.2.2.2 j hj
  exact va_getsN X.hx X.hb hz hW.2.2 X.hown (X.nw hlink rfl) (fun _ h => h) hdg (kk t ht)
theorem k_tld (X : KX p s m args meth c cc nL Ts own D k A) (hW : KW D A s w H locs) {t j : Nat} (hT : va_T .int t 4 (fun i => .int (SVi j i)) A s s.heap) {i v : Int32} {q : Nat} (hi : i = nI q) (hq : q < 4) (hv : SVi j q = v) (hdg : decode cc pc = .ok (.iaload, 1))
    (kk : W p l e R s m args below meth c H locs cells slots Q (F0 m (pc + 1) ls (.int v :: rest))) : W p l e R s m args below meth c H locs cells slots Q (F0 m pc ls (.int i :: .ref t :: rest)) := by
  obtain ⟨h1, h2⟩ := k_in hi hq (by decide)
  exact va_ti X.hx X.hb hT hW.2.2 h1 (v := .int v) (by simp only [h2, hv]) hdg kk
/-! calls -/
def kCall (p : Program) (l : Launch) (e : Env) (R : Room) (s : State) (m : MethodId) (args : Array Value) (below : List Frame) (meth : Method) (c : Code) (H : Heap) (locs : List Loc) (cells slots : Nat) (D : va_G) (k : Nat → ClassId) (pc : Nat) (ls : Array Slot) (st rest : List Value) (wc w1 : va_W) (r : Option Int32) : Prop :=
  match r with
  | some r => va_Run p l e R s m args below meth c H locs cells slots 0 0 (F0 m pc ls st) rest (va_Qi (fun (r' : Int32) (_ : Unit) => r' = r) (fun _ => kPost D k wc w1 H.size) (va_A wc H.size) #[]) (va_A wc H.size)
  | none => va_Run p l e R s m args below meth c H locs cells slots 0 0 (F0 m pc ls st) rest (va_Qv (fun (_ : Unit) => True) (fun _ => kPost D k wc w1 H.size) (va_A wc H.size) #[]) (va_A wc H.size)
theorem k_blind {D : va_G} {k : Nat → ClassId} {av : List Value} {w0 : va_W} {sz : Nat} : FrameBlind (va_Pc av (kPre D k w0 sz)) := fun a U g mk q => by
  obtain ⟨q0, q1, q2, q3, q4, q5⟩ := q
  exact ⟨q0, q1, q2, va_K.moved (u := U) (U := U.calling g mk a) (Vm.Alike.refl U.vm) q3, q4, q5.blind g mk a⟩
theorem k_pre {wc wr : va_W} (X : KX p s m args meth c cc nL Ts own D k A) (hW : KW D A s w H locs) (hp : w.Perm (wr ++ wc)) (av : List Value) : ∀ U : State, U.heap = H → s.WarmedH U.vm → va_Pc av (kPre D k wc H.size) av.toArray U := by
  intro U hU hwm
  have hP := wP_perm hp hW.1
  have hD := wD_iff.mp (wD_perm hp hW.2.1)
  have hPc : va_P D vwCl wc H := wP_iff.mpr fun q hq => wP_iff.mp hP q (List.mem_append_right _ hq)
  rw [List.map_append, List.nodup_append] at hD
  exact ⟨rfl, by rw [hU], by rw [hU]; exact hPc, va_K.moved hwm.alike X.hK, wD_iff.mpr ⟨hD.1.2.1, fun _ _ => trivial⟩, X.hG.step hwm (locs := locs) (by rw [hU]; exact hW.2.2) (w_freeA hW.2.1 hp hW.2.2 X.hA)⟩
theorem k_ci {wc w1 wr : va_W} {r : Int32} {st : List Value} (X : KX p s m args meth c cc nL Ts own D k A) (hW : KW D A s w H locs) (hp : w.Perm (wr ++ wc)) (hp' : (wr ++ w1).Perm w') (hr : kCall p l e R s m args below meth c H locs cells slots D k pc ls st rest wc w1 (some r))
    (kk : ∀ (H1 : Heap) (locs1 : List Loc), KW D A s w' H1 locs1 → W p l e R s m args below meth c H1 locs1 cells slots Q (F0 m (pc + 3) ls (.int r :: rest))) : W p l e R s m args below meth c H locs cells slots Q (F0 m pc ls st) := by
  have hF := w_freeA hW.2.1 hp hW.2.2 X.hA
  refine va_calli hr hW.2.2 (fun q _ h => hF q h) hF (fun r' u t H1 locs1 ht hvm hw hB hz1 hk1 hS1 => ?_)
  obtain ⟨hP1, -, hD1⟩ := hB
  rw [ht] at hP1
  obtain ⟨g1, g2⟩ := w_frame hW.1 hW.2.1 hp hp' hk1 hF hP1 hD1
  subst hw
  exact kk H1 locs1 ⟨g1, g2, hS1⟩
theorem k_cv {wc w1 wr : va_W} {st : List Value} (X : KX p s m args meth c cc nL Ts own D k A) (hW : KW D A s w H locs) (hp : w.Perm (wr ++ wc)) (hp' : (wr ++ w1).Perm w') (hr : kCall p l e R s m args below meth c H locs cells slots D k pc ls st rest wc w1 none)
    (kk : ∀ (H1 : Heap) (locs1 : List Loc), KW D A s w' H1 locs1 → W p l e R s m args below meth c H1 locs1 cells slots Q (F0 m (pc + 3) ls rest)) : W p l e R s m args below meth c H locs cells slots Q (F0 m pc ls st) := by
  have hF := w_freeA hW.2.1 hp hW.2.2 X.hA
  refine va_callv hr hW.2.2 (fun q _ h => hF q h) hF (fun u t H1 locs1 ht hvm hw hB hz1 hk1 hS1 => ?_)
  obtain ⟨hP1, -, hD1⟩ := hB
  rw [ht] at hP1
  obtain ⟨g1, g2⟩ := w_frame hW.1 hW.2.1 hp hp' hk1 hF hP1 hD1
  exact kk H1 locs1 ⟨g1, g2, hS1⟩
/-- the words of a method that stand in GW: its code, that it is an instance's, that it is what is selected, that its class is ready -/
def yV (y : MethodName) (cz : ByteArray) (nz : Nat) (rz : Option FieldType) (C : String) (n : Nat) : Prop := Cond.code y cz nz rz ∈ GW ∧ Cond.instanceMethod y ∈ GW ∧ Cond.selects C y y ∈ GW ∧ Cond.initialized C ∈ GW ∧ y.cls = C ∧ (y.cls ≠ "java/lang/invoke/MethodHandle" ∧ y.cls ≠ "java/lang/invoke/VarHandle" ∧ (parseMethodDescriptor y.desc).map (fun d => d.parameters.length) = some n)
def yS (y : MethodName) (cz : ByteArray) (nz : Nat) (rz : Option FieldType) (n : Nat) : Prop := Cond.code y cz nz rz ∈ GW ∧ Cond.static y ∈ GW ∧ Cond.initialized y.cls ∈ GW ∧ (y.cls ≠ "java/lang/invoke/MethodHandle" ∧ y.cls ≠ "java/lang/invoke/VarHandle" ∧ (parseMethodDescriptor y.desc).map (fun d => d.parameters.length) = some n)
variable {y : MethodName} {cz : ByteArray} {nz dz n : Nat} {rz : Option FieldType} {C : String} {wc w1 wr : va_W} {b : Nat} {As st : List Value} {r : Int32}
theorem k_cwB (X : KX p s m args meth c cc nL Ts own D k A) (hc : Cond.code y cz nz rz ∈ GW) (hi : Cond.initialized y.cls ∈ GW) (hd : y.cls ≠ "java/lang/invoke/MethodHandle" ∧ y.cls ≠ "java/lang/invoke/VarHandle" ∧ (parseMethodDescriptor y.desc).map (fun d => d.parameters.length) = some n) (hlink : Cond.methodLink own index y ∈ GW) (hR : dz + 1 ≤ R.frames ∧ 8 + (nz + 11) + dz * 35 ≤ R.locals) :
    CallB R s args own index y cz nz rz (wsY y cz nz rz) (rmD dz) 0 0 n := callB_of n X.hts (goodY X.hin hc) rfl rfl rfl (X.wd hi) (X.wd hlink) hd hR
theorem k_cwN {host : String} (X : KX p s m args meth c cc nL Ts own D k A) (hc : Cond.code y cz nz rz ∈ GW) (hi : Cond.initialized y.cls ∈ GW) (hd : y.cls ≠ "java/lang/invoke/MethodHandle" ∧ y.cls ≠ "java/lang/invoke/VarHandle" ∧ (parseMethodDescriptor y.desc).map (fun d => d.parameters.length) = some n) (hlink : Cond.methodLinkNest own index y host ∈ NWL) (hR : dz + 1 ≤ R.frames ∧ 8 + (nz + 11) + dz * 35 ≤ R.locals) :
    va_CN R s args own index y host cz nz rz (wsY y cz nz rz) (rmD dz) 0 0 n := va_cnB n X.hts (goodY X.hin hc) rfl rfl rfl (X.hG.1 _ hlink) (X.wd hi) hd hR
theorem k_rcv (X : KX p s m args meth c cc nL Ts own D k A) (hW : KW D A s w H locs) {ci q0 N : Nat} {T : u_T} {fs : List Value} (hc : vwCl[ci]? = some (C, T, N)) (he : w[q0]? = some (b, .inr (ci, fs))) : ∃ cell : Cell, H[b]? = some cell ∧ cell.vm.isStatics = false ∧ s.vm.findClass C = some cell.cls := va_recv X.hK hW.1 hc he
/-- an instance's method of the own class, an int comes back -/
theorem kVi (X : KX p s m args meth c cc nL Ts own D k A) (hW : KW D A s w H locs) (hM : mI l y (wsY y cz nz rz) dz D k (.ref b :: As) wc w1 r) (hY : yV y cz nz rz C n) (hlink : Cond.methodLink own index y ∈ GW) (hR : dz + 1 ≤ R.frames ∧ 8 + (nz + 11) + dz * 35 ≤ R.locals) (hp : w.Perm (wr ++ wc)) (hp' : (wr ++ w1).Perm w') (hrc : ∃ cell : Cell, H[b]? = some cell ∧ cell.vm.isStatics = false ∧ s.vm.findClass C = some cell.cls) (hn : As.length = n) (hsz : ls.size = nL) (hs : st = As.reverse ++ .ref b :: rest) (hroom : (rest.map fun v => v.category).sum ≤ 8) (hf : cells ≤ R.cells ∧ slots ≤ R.slots) (hdg : decode cc pc = .ok (.invokevirtual index, 3))
    (kk : ∀ (H1 : Heap) (locs1 : List Loc), KW D A s w' H1 locs1 → W p l e R s m args below meth c H1 locs1 cells slots Q (F0 m (pc + 3) ls (.int r :: rest))) : W p l e R s m args below meth c H locs cells slots Q (F0 m pc ls st) := by
  obtain ⟨h1, h2, h3, h4, rfl, h6⟩ := hY
  exact k_ci X hW hp hp' (va_runV (As := As) (rest := rest) ⟨X.hx, X.hb, X.hml, X.hown, X.hts⟩ (hM H.size) ⟨k_cwB X h1 h4 h6 hlink hR, X.wd h2, X.wd h3⟩ ⟨k_blind, hrc, k_pre X hW hp _⟩ rfl hn hsz hs (lv_room hroom) hdg hf) kk
theorem kVv (X : KX p s m args meth c cc nL Ts own D k A) (hW : KW D A s w H locs) (hM : mV l y (wsY y cz nz rz) dz D k (.ref b :: As) wc w1) (hY : yV y cz nz rz C n) (hlink : Cond.methodLink own index y ∈ GW) (hR : dz + 1 ≤ R.frames ∧ 8 + (nz + 11) + dz * 35 ≤ R.locals) (hp : w.Perm (wr ++ wc)) (hp' : (wr ++ w1).Perm w') (hrc : ∃ cell : Cell, H[b]? = some cell ∧ cell.vm.isStatics = false ∧ s.vm.findClass C = some cell.cls) (hn : As.length = n) (hsz : ls.size = nL) (hs : st = As.reverse ++ .ref b :: rest) (hroom : (rest.map fun v => v.category).sum ≤ 8) (hf : cells ≤ R.cells ∧ slots ≤ R.slots) (hdg : decode cc pc = .ok (.invokevirtual index, 3))
    (kk : ∀ (H1 : Heap) (locs1 : List Loc), KW D A s w' H1 locs1 → W p l e R s m args below meth c H1 locs1 cells slots Q (F0 m (pc + 3) ls rest)) : W p l e R s m args below meth c H locs cells slots Q (F0 m pc ls st) := by
  obtain ⟨h1, h2, h3, h4, rfl, h6⟩ := hY
  exact k_cv X hW hp hp' (va_runV (As := As) (rest := rest) ⟨X.hx, X.hb, X.hml, X.hown, X.hts⟩ (hM H.size) ⟨k_cwB X h1 h4 h6 hlink hR, X.wd h2, X.wd h3⟩ ⟨k_blind, hrc, k_pre X hW hp _⟩ rfl hn hsz hs (lv_room hroom) hdg hf) kk
theorem kNi {host : String} (X : KX p s m args meth c cc nL Ts own D k A) (hW : KW D A s w H locs) (hM : mI l y (wsY y cz nz rz) dz D k (.ref b :: As) wc w1 r) (hY : yV y cz nz rz C n) (hlink : Cond.methodLinkNest own index y host ∈ NWL) (hR : dz + 1 ≤ R.frames ∧ 8 + (nz + 11) + dz * 35 ≤ R.locals) (hp : w.Perm (wr ++ wc)) (hp' : (wr ++ w1).Perm w') (hrc : ∃ cell : Cell, H[b]? = some cell ∧ cell.vm.isStatics = false ∧ s.vm.findClass C = some cell.cls) (hn : As.length = n) (hsz : ls.size = nL) (hs : st = As.reverse ++ .ref b :: rest) (hroom : (rest.map fun v => v.category).sum ≤ 8) (hf : cells ≤ R.cells ∧ slots ≤ R.slots) (hdg : decode cc pc = .ok (.invokevirtual index, 3))
    (kk : ∀ (H1 : Heap) (locs1 : List Loc), KW D A s w' H1 locs1 → W p l e R s m args below meth c H1 locs1 cells slots Q (F0 m (pc + 3) ls (.int r :: rest))) : W p l e R s m args below meth c H locs cells slots Q (F0 m pc ls st) := by
  obtain ⟨h1, h2, h3, h4, rfl, h6⟩ := hY
  exact k_ci X hW hp hp' (va_runVN (As := As) (rest := rest) ⟨X.hx, X.hb, X.hml, X.hown, X.hts⟩ (hM H.size) ⟨k_cwN X h1 h4 h6 hlink hR, X.wd h2, X.wd h3⟩ ⟨k_blind, hrc, k_pre X hW hp _⟩ rfl hn hsz hs (lv_room hroom) hdg hf) kk
theorem kNv {host : String} (X : KX p s m args meth c cc nL Ts own D k A) (hW : KW D A s w H locs) (hM : mV l y (wsY y cz nz rz) dz D k (.ref b :: As) wc w1) (hY : yV y cz nz rz C n) (hlink : Cond.methodLinkNest own index y host ∈ NWL) (hR : dz + 1 ≤ R.frames ∧ 8 + (nz + 11) + dz * 35 ≤ R.locals) (hp : w.Perm (wr ++ wc)) (hp' : (wr ++ w1).Perm w') (hrc : ∃ cell : Cell, H[b]? = some cell ∧ cell.vm.isStatics = false ∧ s.vm.findClass C = some cell.cls) (hn : As.length = n) (hsz : ls.size = nL) (hs : st = As.reverse ++ .ref b :: rest) (hroom : (rest.map fun v => v.category).sum ≤ 8) (hf : cells ≤ R.cells ∧ slots ≤ R.slots) (hdg : decode cc pc = .ok (.invokevirtual index, 3))
    (kk : ∀ (H1 : Heap) (locs1 : List Loc), KW D A s w' H1 locs1 → W p l e R s m args below meth c H1 locs1 cells slots Q (F0 m (pc + 3) ls rest)) : W p l e R s m args below meth c H locs cells slots Q (F0 m pc ls st) := by
  obtain ⟨h1, h2, h3, h4, rfl, h6⟩ := hY
  exact k_cv X hW hp hp' (va_runVN (As := As) (rest := rest) ⟨X.hx, X.hb, X.hml, X.hown, X.hts⟩ (hM H.size) ⟨k_cwN X h1 h4 h6 hlink hR, X.wd h2, X.wd h3⟩ ⟨k_blind, hrc, k_pre X hW hp _⟩ rfl hn hsz hs (lv_room hroom) hdg hf) kk
/-- a static method (its contract speaks of no world), an int comes back -/
theorem kSi (X : KX p s m args meth c cc nL Ts own D k A) (hW : KW D A s w H locs) (hM : mI l y (wsY y cz nz rz) dz D k As [] [] r) (hY : yS y cz nz rz n) (hlink : Cond.methodLink own index y ∈ GW) (hR : dz + 1 ≤ R.frames ∧ 8 + (nz + 11) + dz * 35 ≤ R.locals) (hn : As.length = n) (hsz : ls.size = nL) (hs : st = As.reverse ++ rest) (hroom : (rest.map fun v => v.category).sum ≤ 8) (hf : cells ≤ R.cells ∧ slots ≤ R.slots) (hdg : decode cc pc = .ok (.invokestatic index, 3))
    (kk : ∀ (H1 : Heap) (locs1 : List Loc), KW D A s w H1 locs1 → W p l e R s m args below meth c H1 locs1 cells slots Q (F0 m (pc + 3) ls (.int r :: rest))) : W p l e R s m args below meth c H locs cells slots Q (F0 m pc ls st) := by
  obtain ⟨h1, h2, h4, h6⟩ := hY
  exact k_ci X hW (wr := w) (by simp) (by simp) (va_runS (As := As) (rest := rest) ⟨X.hx, X.hb, X.hml, X.hown, X.hts⟩ (hM H.size) ⟨k_cwB X h1 h4 h6 hlink hR, X.wd h2⟩ ⟨k_blind, k_pre X hW (wr := w) (by simp) _⟩ rfl hn hsz hs (lv_room hroom) hdg hf) kk
theorem kSNi {host : String} (X : KX p s m args meth c cc nL Ts own D k A) (hW : KW D A s w H locs) (hM : mI l y (wsY y cz nz rz) dz D k As [] [] r) (hY : yS y cz nz rz n) (hlink : Cond.methodLinkNest own index y host ∈ NWL) (hR : dz + 1 ≤ R.frames ∧ 8 + (nz + 11) + dz * 35 ≤ R.locals) (hn : As.length = n) (hsz : ls.size = nL) (hs : st = As.reverse ++ rest) (hroom : (rest.map fun v => v.category).sum ≤ 8) (hf : cells ≤ R.cells ∧ slots ≤ R.slots) (hdg : decode cc pc = .ok (.invokestatic index, 3))
    (kk : ∀ (H1 : Heap) (locs1 : List Loc), KW D A s w H1 locs1 → W p l e R s m args below meth c H1 locs1 cells slots Q (F0 m (pc + 3) ls (.int r :: rest))) : W p l e R s m args below meth c H locs cells slots Q (F0 m pc ls st) := by
  obtain ⟨h1, h2, h4, h6⟩ := hY
  exact k_ci X hW (wr := w) (by simp) (by simp) (va_runSN (As := As) (rest := rest) ⟨X.hx, X.hb, X.hml, X.hown, X.hts⟩ (hM H.size) ⟨k_cwN X h1 h4 h6 hlink hR, X.wd h2, trivial⟩ ⟨k_blind, k_pre X hW (wr := w) (by simp) _⟩ rfl hn hsz hs (lv_room hroom) hdg hf) kk
end
end
section
theorem gwn {w : Cond} (h : w ∈ lw_tbl) (hg : goodWord w = true) : w ∈ GW := List.mem_filter.mpr ⟨h, hg⟩
theorem inG0 : ∀ q ∈ u_ws RX0 TX0 8, q ∈ GW := by
  intro q hq
  obtain ⟨j, hj, rfl⟩ := List.mem_map.mp hq
  have hj := List.mem_range.mp hj
  match j, hj with
  | 0, _ => exact gwm 144 (by decide +kernel) (by decide +kernel)
  | 1, _ => exact gwm 146 (by decide +kernel) (by decide +kernel)
  | 2, _ => exact gwm 148 (by decide +kernel) (by decide +kernel)
  | 3, _ => exact gwm 150 (by decide +kernel) (by decide +kernel)
  | 4, _ => exact gwm 152 (by decide +kernel) (by decide +kernel)
  | 5, _ => exact gwm 154 (by decide +kernel) (by decide +kernel)
  | 6, _ => exact gwm 156 (by decide +kernel) (by decide +kernel)
  | 7, _ => exact gwm 158 (by decide +kernel) (by decide +kernel)
theorem inG1 : ∀ q ∈ u_ws RX1 TX1 3, q ∈ GW := by
  intro q hq
  obtain ⟨j, hj, rfl⟩ := List.mem_map.mp hq
  have hj := List.mem_range.mp hj
  match j, hj with
  | 0, _ => exact gwm 174 (by decide +kernel) (by decide +kernel)
  | 1, _ => exact gwm 176 (by decide +kernel) (by decide +kernel)
  | 2, _ => exact gwm 178 (by decide +kernel) (by decide +kernel)
theorem inG2 : ∀ q ∈ u_ws RX2 TX2 9, q ∈ GW := by
  intro q hq
  obtain ⟨j, hj, rfl⟩ := List.mem_map.mp hq
  have hj := List.mem_range.mp hj
  match j, hj with
  | 0, _ => exact gwm 203 (by decide +kernel) (by decide +kernel)
  | 1, _ => exact gwm 205 (by decide +kernel) (by decide +kernel)
  | 2, _ => exact gwm 207 (by decide +kernel) (by decide +kernel)
  | 3, _ => exact gwm 209 (by decide +kernel) (by decide +kernel)
  | 4, _ => exact gwm 211 (by decide +kernel) (by decide +kernel)
  | 5, _ => exact gwm 213 (by decide +kernel) (by decide +kernel)
  | 6, _ => exact gwm 215 (by decide +kernel) (by decide +kernel)
  | 7, _ => exact gwm 217 (by decide +kernel) (by decide +kernel)
  | 8, _ => exact gwm 219 (by decide +kernel) (by decide +kernel)
theorem inG3 : ∀ q ∈ u_ws RX3 TX3 13, q ∈ GW := by
  intro q hq
  obtain ⟨j, hj, rfl⟩ := List.mem_map.mp hq
  have hj := List.mem_range.mp hj
  match j, hj with
  | 0, _ => exact gwm 103 (by decide +kernel) (by decide +kernel)
  | 1, _ => exact gwm 105 (by decide +kernel) (by decide +kernel)
  | 2, _ => exact gwm 107 (by decide +kernel) (by decide +kernel)
  | 3, _ => exact gwm 109 (by decide +kernel) (by decide +kernel)
  | 4, _ => exact gwm 111 (by decide +kernel) (by decide +kernel)
  | 5, _ => exact gwm 113 (by decide +kernel) (by decide +kernel)
  | 6, _ => exact gwm 115 (by decide +kernel) (by decide +kernel)
  | 7, _ => exact gwm 117 (by decide +kernel) (by decide +kernel)
  | 8, _ => exact gwm 119 (by decide +kernel) (by decide +kernel)
  | 9, _ => exact gwm 121 (by decide +kernel) (by decide +kernel)
  | 10, _ => exact gwm 123 (by decide +kernel) (by decide +kernel)
  | 11, _ => exact gwm 125 (by decide +kernel) (by decide +kernel)
  | 12, _ => exact gwm 127 (by decide +kernel) (by decide +kernel)
theorem inG4 : ∀ q ∈ u_ws RX4 TX4 6, q ∈ GW := by
  intro q hq
  obtain ⟨j, hj, rfl⟩ := List.mem_map.mp hq
  have hj := List.mem_range.mp hj
  match j, hj with
  | 0, _ => exact gwm 229 (by decide +kernel) (by decide +kernel)
  | 1, _ => exact gwm 231 (by decide +kernel) (by decide +kernel)
  | 2, _ => exact gwm 233 (by decide +kernel) (by decide +kernel)
  | 3, _ => exact gwm 235 (by decide +kernel) (by decide +kernel)
  | 4, _ => exact gwm 237 (by decide +kernel) (by decide +kernel)
  | 5, _ => exact gwm 239 (by decide +kernel) (by decide +kernel)
theorem yi_X0_init : Cond.code yX0_init cX0_init 2 none ∈ GW ∧ Cond.instanceMethod yX0_init ∈ GW ∧ Cond.initialized RX0 ∈ GW := ⟨gwm 64 (by decide +kernel) (by decide +kernel), gwm 63 (by decide +kernel) (by decide +kernel), gwm 46 (by decide +kernel) (by decide +kernel)⟩
theorem yw_X0_copyFrom : yV yX0_copyFrom cX0_copyFrom 3 none RX0 1 := ⟨gwm 284 (by decide +kernel) (by decide +kernel), gwm 283 (by decide +kernel) (by decide +kernel), gwm 5 (by decide +kernel) (by decide +kernel), gwm 46 (by decide +kernel) (by decide +kernel), rfl, by decide +kernel⟩
theorem yw_X0_emptyLike : yV yX0_emptyLike cX0_emptyLike 3 none RX0 1 := ⟨gwm 545 (by decide +kernel) (by decide +kernel), gwm 544 (by decide +kernel) (by decide +kernel), gwm 42 (by decide +kernel) (by decide +kernel), gwm 46 (by decide +kernel) (by decide +kernel), rfl, by decide +kernel⟩
theorem yw_X0_changeSetting : yV yX0_changeSetting cX0_changeSetting 4 (some .int) RX0 2 := ⟨gwm 292 (by decide +kernel) (by decide +kernel), gwm 291 (by decide +kernel) (by decide +kernel), gwm 7 (by decide +kernel) (by decide +kernel), gwm 46 (by decide +kernel) (by decide +kernel), rfl, by decide +kernel⟩
theorem yw_X0_changeBounds : yV yX0_changeBounds cX0_changeBounds 6 (some .int) RX0 3 := ⟨gwm 319 (by decide +kernel) (by decide +kernel), gwm 318 (by decide +kernel) (by decide +kernel), gwm 9 (by decide +kernel) (by decide +kernel), gwm 46 (by decide +kernel) (by decide +kernel), rfl, by decide +kernel⟩
theorem yw_X0_receive : yV yX0_receive cX0_receive 4 (some .int) RX0 1 := ⟨gwm 402 (by decide +kernel) (by decide +kernel), gwm 401 (by decide +kernel) (by decide +kernel), gwm 23 (by decide +kernel) (by decide +kernel), gwm 46 (by decide +kernel) (by decide +kernel), rfl, by decide +kernel⟩
theorem yw_X0_changeMask : yV yX0_changeMask cX0_changeMask 3 (some .int) RX0 1 := ⟨gwm 463 (by decide +kernel) (by decide +kernel), gwm 462 (by decide +kernel) (by decide +kernel), gwm 37 (by decide +kernel) (by decide +kernel), gwm 46 (by decide +kernel) (by decide +kernel), rfl, by decide +kernel⟩
theorem yw_X0_callByHand : yV yX0_callByHand cX0_callByHand 3 (some .int) RX0 1 := ⟨gwm 479 (by decide +kernel) (by decide +kernel), gwm 478 (by decide +kernel) (by decide +kernel), gwm 38 (by decide +kernel) (by decide +kernel), gwm 46 (by decide +kernel) (by decide +kernel), rfl, by decide +kernel⟩
theorem yw_X0_passTicks : yV yX0_passTicks cX0_passTicks 2 (some .int) RX0 1 := ⟨gwm 406 (by decide +kernel) (by decide +kernel), gwm 405 (by decide +kernel) (by decide +kernel), gwm 24 (by decide +kernel) (by decide +kernel), gwm 46 (by decide +kernel) (by decide +kernel), rfl, by decide +kernel⟩
theorem yw_X0_runTicks : yV yX0_runTicks cX0_runTicks 4 (some .int) RX0 1 := ⟨gwm 410 (by decide +kernel) (by decide +kernel), gwm 409 (by decide +kernel) (by decide +kernel), gwm 25 (by decide +kernel) (by decide +kernel), gwm 46 (by decide +kernel) (by decide +kernel), rfl, by decide +kernel⟩
theorem yw_X0_tick : yV yX0_tick cX0_tick 3 (some .int) RX0 0 := ⟨gwm 414 (by decide +kernel) (by decide +kernel), gwm 413 (by decide +kernel) (by decide +kernel), gwm 26 (by decide +kernel) (by decide +kernel), gwm 46 (by decide +kernel) (by decide +kernel), rfl, by decide +kernel⟩
theorem yw_X0_poll : yV yX0_poll cX0_poll 4 (some .int) RX0 0 := ⟨gwm 418 (by decide +kernel) (by decide +kernel), gwm 417 (by decide +kernel) (by decide +kernel), gwm 27 (by decide +kernel) (by decide +kernel), gwm 46 (by decide +kernel) (by decide +kernel), rfl, by decide +kernel⟩
theorem yw_X0_takeOldest : yV yX0_takeOldest cX0_takeOldest 5 none RX0 2 := ⟨gwm 431 (by decide +kernel) (by decide +kernel), gwm 430 (by decide +kernel) (by decide +kernel), gwm 30 (by decide +kernel) (by decide +kernel), gwm 46 (by decide +kernel) (by decide +kernel), rfl, by decide +kernel⟩
theorem yw_X0_whySilent : yV yX0_whySilent cX0_whySilent 4 (some .int) RX0 1 := ⟨gwm 455 (by decide +kernel) (by decide +kernel), gwm 454 (by decide +kernel) (by decide +kernel), gwm 35 (by decide +kernel) (by decide +kernel), gwm 46 (by decide +kernel) (by decide +kernel), rfl, by decide +kernel⟩
theorem yw_X0_enterRow : yV yX0_enterRow cX0_enterRow 2 none RX0 1 := ⟨gwm 459 (by decide +kernel) (by decide +kernel), gwm 458 (by decide +kernel) (by decide +kernel), gwm 36 (by decide +kernel) (by decide +kernel), gwm 46 (by decide +kernel) (by decide +kernel), rfl, by decide +kernel⟩
theorem yw_X0_leaveRow : yV yX0_leaveRow cX0_leaveRow 6 none RX0 1 := ⟨gwm 439 (by decide +kernel) (by decide +kernel), gwm 438 (by decide +kernel) (by decide +kernel), gwm 32 (by decide +kernel) (by decide +kernel), gwm 46 (by decide +kernel) (by decide +kernel), rfl, by decide +kernel⟩
theorem yw_X0_rowLength : yV yX0_rowLength cX0_rowLength 6 (some .int) RX0 0 := ⟨gwm 451 (by decide +kernel) (by decide +kernel), gwm 450 (by decide +kernel) (by decide +kernel), gwm 34 (by decide +kernel) (by decide +kernel), gwm 46 (by decide +kernel) (by decide +kernel), rfl, by decide +kernel⟩
theorem yw_X0_queueAt : yV yX0_queueAt cX0_queueAt 3 (some .int) RX0 1 := ⟨gwm 422 (by decide +kernel) (by decide +kernel), gwm 421 (by decide +kernel) (by decide +kernel), gwm 28 (by decide +kernel) (by decide +kernel), gwm 46 (by decide +kernel) (by decide +kernel), rfl, by decide +kernel⟩
theorem yw_X0_hasFrame : yV yX0_hasFrame cX0_hasFrame 2 (some .boolean) RX0 1 := ⟨gwm 427 (by decide +kernel) (by decide +kernel), gwm 426 (by decide +kernel) (by decide +kernel), gwm 29 (by decide +kernel) (by decide +kernel), gwm 46 (by decide +kernel) (by decide +kernel), rfl, by decide +kernel⟩
theorem yw_X0_frameFact : yV yX0_frameFact cX0_frameFact 3 (some .int) RX0 2 := ⟨gwm 529 (by decide +kernel) (by decide +kernel), gwm 528 (by decide +kernel) (by decide +kernel), gwm 39 (by decide +kernel) (by decide +kernel), gwm 46 (by decide +kernel) (by decide +kernel), rfl, by decide +kernel⟩
theorem yw_X0_waitOf : yV yX0_waitOf cX0_waitOf 3 (some .int) RX0 1 := ⟨gwm 533 (by decide +kernel) (by decide +kernel), gwm 532 (by decide +kernel) (by decide +kernel), gwm 40 (by decide +kernel) (by decide +kernel), gwm 46 (by decide +kernel) (by decide +kernel), rfl, by decide +kernel⟩
theorem yw_X0_total : yV yX0_total cX0_total 7 (some .int) RX0 1 := ⟨gwm 260 (by decide +kernel) (by decide +kernel), gwm 259 (by decide +kernel) (by decide +kernel), gwm 0 (by decide +kernel) (by decide +kernel), gwm 46 (by decide +kernel) (by decide +kernel), rfl, by decide +kernel⟩
theorem yw_X0_maskedSet : yV yX0_maskedSet cX0_maskedSet 3 (some .int) RX0 0 := ⟨gwm 272 (by decide +kernel) (by decide +kernel), gwm 271 (by decide +kernel) (by decide +kernel), gwm 3 (by decide +kernel) (by decide +kernel), gwm 46 (by decide +kernel) (by decide +kernel), rfl, by decide +kernel⟩
theorem yi_X1_init : Cond.code yX1_init cX1_init 2 none ∈ GW ∧ Cond.instanceMethod yX1_init ∈ GW ∧ Cond.initialized RX1 ∈ GW := ⟨gwm 166 (by decide +kernel) (by decide +kernel), gwm 165 (by decide +kernel) (by decide +kernel), gwm 49 (by decide +kernel) (by decide +kernel)⟩
theorem yw_X1_prepare : yV yX1_prepare cX1_prepare 2 none RX1 1 := ⟨gwm 280 (by decide +kernel) (by decide +kernel), gwm 279 (by decide +kernel) (by decide +kernel), gwm 4 (by decide +kernel) (by decide +kernel), gwm 49 (by decide +kernel) (by decide +kernel), rfl, by decide +kernel⟩
theorem yw_X1_keepIfDone : yV yX1_keepIfDone cX1_keepIfDone 2 (some .int) RX1 1 := ⟨gwm 300 (by decide +kernel) (by decide +kernel), gwm 299 (by decide +kernel) (by decide +kernel), gwm 8 (by decide +kernel) (by decide +kernel), gwm 49 (by decide +kernel) (by decide +kernel), rfl, by decide +kernel⟩
theorem yi_X2_init : Cond.code yX2_init cX2_init 1 none ∈ GW ∧ Cond.instanceMethod yX2_init ∈ GW ∧ Cond.initialized RX2 ∈ GW := ⟨gwm 186 (by decide +kernel) (by decide +kernel), gwm 185 (by decide +kernel) (by decide +kernel), gwm 50 (by decide +kernel) (by decide +kernel)⟩
theorem yw_X2_append : yV yX2_append cX2_append 5 (some .int) RX2 1 := ⟨gwm 337 (by decide +kernel) (by decide +kernel), gwm 336 (by decide +kernel) (by decide +kernel), gwm 11 (by decide +kernel) (by decide +kernel), gwm 50 (by decide +kernel) (by decide +kernel), rfl, by decide +kernel⟩
theorem yw_X2_sizeOf : yS yX2_sizeOf cX2_sizeOf 7 (some .int) 1 := ⟨gwm 340 (by decide +kernel) (by decide +kernel), gwm 339 (by decide +kernel) (by decide +kernel), gwm 50 (by decide +kernel) (by decide +kernel), by decide +kernel⟩
theorem yw_X2_clear : yV yX2_clear cX2_clear 2 (some .int) RX2 0 := ⟨gwm 328 (by decide +kernel) (by decide +kernel), gwm 327 (by decide +kernel) (by decide +kernel), gwm 10 (by decide +kernel) (by decide +kernel), gwm 50 (by decide +kernel) (by decide +kernel), rfl, by decide +kernel⟩
theorem yw_X2_firstFault : yV yX2_firstFault cX2_firstFault 3 (some .int) RX2 0 := ⟨gwm 356 (by decide +kernel) (by decide +kernel), gwm 355 (by decide +kernel) (by decide +kernel), gwm 12 (by decide +kernel) (by decide +kernel), gwm 50 (by decide +kernel) (by decide +kernel), rfl, by decide +kernel⟩
theorem yw_X2_startReading : yV yX2_startReading cX2_startReading 1 none RX2 0 := ⟨gwm 360 (by decide +kernel) (by decide +kernel), gwm 359 (by decide +kernel) (by decide +kernel), gwm 13 (by decide +kernel) (by decide +kernel), gwm 50 (by decide +kernel) (by decide +kernel), rfl, by decide +kernel⟩
theorem yw_X2_readOrder : yV yX2_readOrder cX2_readOrder 1 (some .boolean) RX2 0 := ⟨gwm 364 (by decide +kernel) (by decide +kernel), gwm 363 (by decide +kernel) (by decide +kernel), gwm 14 (by decide +kernel) (by decide +kernel), gwm 50 (by decide +kernel) (by decide +kernel), rfl, by decide +kernel⟩
theorem yw_X2_readFrames : yV yX2_readFrames cX2_readFrames 1 none RX2 0 := ⟨gwm 372 (by decide +kernel) (by decide +kernel), gwm 371 (by decide +kernel) (by decide +kernel), gwm 16 (by decide +kernel) (by decide +kernel), gwm 50 (by decide +kernel) (by decide +kernel), rfl, by decide +kernel⟩
theorem yw_X2_readBounds : yV yX2_readBounds cX2_readBounds 1 none RX2 0 := ⟨gwm 388 (by decide +kernel) (by decide +kernel), gwm 387 (by decide +kernel) (by decide +kernel), gwm 20 (by decide +kernel) (by decide +kernel), gwm 50 (by decide +kernel) (by decide +kernel), rfl, by decide +kernel⟩
theorem yw_X2_readNumber : yV yX2_readNumber cX2_readNumber 2 (some .int) RX2 0 := ⟨gwm 376 (by decide +kernel) (by decide +kernel), gwm 375 (by decide +kernel) (by decide +kernel), gwm 17 (by decide +kernel) (by decide +kernel), gwm 50 (by decide +kernel) (by decide +kernel), rfl, by decide +kernel⟩
theorem yw_X2_readDigit : yV yX2_readDigit cX2_readDigit 2 (some .int) RX2 0 := ⟨gwm 380 (by decide +kernel) (by decide +kernel), gwm 379 (by decide +kernel) (by decide +kernel), gwm 18 (by decide +kernel) (by decide +kernel), gwm 50 (by decide +kernel) (by decide +kernel), rfl, by decide +kernel⟩
theorem yw_X2_demand : yV yX2_demand cX2_demand 2 none RX2 1 := ⟨gwm 392 (by decide +kernel) (by decide +kernel), gwm 391 (by decide +kernel) (by decide +kernel), gwm 21 (by decide +kernel) (by decide +kernel), gwm 50 (by decide +kernel) (by decide +kernel), rfl, by decide +kernel⟩
theorem yw_X2_readSign : yV yX2_readSign cX2_readSign 2 (some .boolean) RX2 1 := ⟨gwm 368 (by decide +kernel) (by decide +kernel), gwm 367 (by decide +kernel) (by decide +kernel), gwm 15 (by decide +kernel) (by decide +kernel), gwm 50 (by decide +kernel) (by decide +kernel), rfl, by decide +kernel⟩
theorem yw_X2_digitStands : yV yX2_digitStands cX2_digitStands 1 (some .boolean) RX2 0 := ⟨gwm 384 (by decide +kernel) (by decide +kernel), gwm 383 (by decide +kernel) (by decide +kernel), gwm 19 (by decide +kernel) (by decide +kernel), gwm 50 (by decide +kernel) (by decide +kernel), rfl, by decide +kernel⟩
theorem yi_X3_init : Cond.code yX3_init cX3_init 1 none ∈ GW ∧ Cond.instanceMethod yX3_init ∈ GW ∧ Cond.initialized RX3 ∈ GW := ⟨gwm 76 (by decide +kernel) (by decide +kernel), gwm 75 (by decide +kernel) (by decide +kernel), gwm 48 (by decide +kernel) (by decide +kernel)⟩
theorem yw_X3_copyFrom : yV yX3_copyFrom cX3_copyFrom 2 none RX3 1 := ⟨gwm 288 (by decide +kernel) (by decide +kernel), gwm 287 (by decide +kernel) (by decide +kernel), gwm 6 (by decide +kernel) (by decide +kernel), gwm 48 (by decide +kernel) (by decide +kernel), rfl, by decide +kernel⟩
theorem yw_X3_emptyLike : yV yX3_emptyLike cX3_emptyLike 2 none RX3 1 := ⟨gwm 549 (by decide +kernel) (by decide +kernel), gwm 548 (by decide +kernel) (by decide +kernel), gwm 43 (by decide +kernel) (by decide +kernel), gwm 48 (by decide +kernel) (by decide +kernel), rfl, by decide +kernel⟩
theorem yw_X3_isCalled : yV yX3_isCalled cX3_isCalled 1 (some .boolean) RX3 0 := ⟨gwm 268 (by decide +kernel) (by decide +kernel), gwm 267 (by decide +kernel) (by decide +kernel), gwm 2 (by decide +kernel) (by decide +kernel), gwm 48 (by decide +kernel) (by decide +kernel), rfl, by decide +kernel⟩
theorem yw_X3_noteTaken : yV yX3_noteTaken cX3_noteTaken 2 none RX3 1 := ⟨gwm 435 (by decide +kernel) (by decide +kernel), gwm 434 (by decide +kernel) (by decide +kernel), gwm 31 (by decide +kernel) (by decide +kernel), gwm 48 (by decide +kernel) (by decide +kernel), rfl, by decide +kernel⟩
theorem yw_X3_becomeIdle : yV yX3_becomeIdle cX3_becomeIdle 2 none RX3 1 := ⟨gwm 443 (by decide +kernel) (by decide +kernel), gwm 442 (by decide +kernel) (by decide +kernel), gwm 33 (by decide +kernel) (by decide +kernel), gwm 48 (by decide +kernel) (by decide +kernel), rfl, by decide +kernel⟩
theorem yw_X3_fact : yV yX3_fact cX3_fact 2 (some .int) RX3 1 := ⟨gwm 264 (by decide +kernel) (by decide +kernel), gwm 263 (by decide +kernel) (by decide +kernel), gwm 1 (by decide +kernel) (by decide +kernel), gwm 48 (by decide +kernel) (by decide +kernel), rfl, by decide +kernel⟩
theorem yi_X4_init : Cond.code yX4_init cX4_init 2 none ∈ GW ∧ Cond.instanceMethod yX4_init ∈ GW ∧ Cond.initialized RX4 ∈ GW := ⟨gwm 56 (by decide +kernel) (by decide +kernel), gwm 55 (by decide +kernel) (by decide +kernel), gwm 45 (by decide +kernel) (by decide +kernel)⟩
theorem yw_X4_set : yV yX4_set cX4_set 3 (some .int) RX4 2 := ⟨gwm 276 (by decide +kernel) (by decide +kernel), gwm 274 (by decide +kernel) (by decide +kernel), gwm 275 (by decide +kernel) (by decide +kernel), gwm 45 (by decide +kernel) (by decide +kernel), rfl, by decide +kernel⟩
theorem yw_X4_bounds : yV yX4_bounds cX4_bounds 4 (some .int) RX4 3 := ⟨gwm 315 (by decide +kernel) (by decide +kernel), gwm 313 (by decide +kernel) (by decide +kernel), gwm 314 (by decide +kernel) (by decide +kernel), gwm 45 (by decide +kernel) (by decide +kernel), rfl, by decide +kernel⟩
theorem yw_X4_come : yV yX4_come cX4_come 2 (some .int) RX4 1 := ⟨gwm 515 (by decide +kernel) (by decide +kernel), gwm 513 (by decide +kernel) (by decide +kernel), gwm 514 (by decide +kernel) (by decide +kernel), gwm 45 (by decide +kernel) (by decide +kernel), rfl, by decide +kernel⟩
theorem yw_X4_mask : yV yX4_mask cX4_mask 2 (some .int) RX4 1 := ⟨gwm 467 (by decide +kernel) (by decide +kernel), gwm 465 (by decide +kernel) (by decide +kernel), gwm 466 (by decide +kernel) (by decide +kernel), gwm 45 (by decide +kernel) (by decide +kernel), rfl, by decide +kernel⟩
theorem yw_X4_call : yV yX4_call cX4_call 2 (some .int) RX4 1 := ⟨gwm 475 (by decide +kernel) (by decide +kernel), gwm 473 (by decide +kernel) (by decide +kernel), gwm 474 (by decide +kernel) (by decide +kernel), gwm 45 (by decide +kernel) (by decide +kernel), rfl, by decide +kernel⟩
theorem yw_X4_pass : yV yX4_pass cX4_pass 2 (some .int) RX4 1 := ⟨gwm 493 (by decide +kernel) (by decide +kernel), gwm 491 (by decide +kernel) (by decide +kernel), gwm 492 (by decide +kernel) (by decide +kernel), gwm 45 (by decide +kernel) (by decide +kernel), rfl, by decide +kernel⟩
theorem yw_X4_of : yV yX4_of cX4_of 3 (some .int) RX4 2 := ⟨gwm 307 (by decide +kernel) (by decide +kernel), gwm 305 (by decide +kernel) (by decide +kernel), gwm 306 (by decide +kernel) (by decide +kernel), gwm 45 (by decide +kernel) (by decide +kernel), rfl, by decide +kernel⟩
theorem yw_X4_frame : yV yX4_frame cX4_frame 3 (some .int) RX4 2 := ⟨gwm 524 (by decide +kernel) (by decide +kernel), gwm 522 (by decide +kernel) (by decide +kernel), gwm 523 (by decide +kernel) (by decide +kernel), gwm 45 (by decide +kernel) (by decide +kernel), rfl, by decide +kernel⟩
theorem yw_X4_row : yV yX4_row cX4_row 2 (some .int) RX4 1 := ⟨gwm 483 (by decide +kernel) (by decide +kernel), gwm 481 (by decide +kernel) (by decide +kernel), gwm 482 (by decide +kernel) (by decide +kernel), gwm 45 (by decide +kernel) (by decide +kernel), rfl, by decide +kernel⟩
theorem yw_X4_count : yV yX4_count cX4_count 2 (some .int) RX4 1 := ⟨gwm 256 (by decide +kernel) (by decide +kernel), gwm 254 (by decide +kernel) (by decide +kernel), gwm 255 (by decide +kernel) (by decide +kernel), gwm 45 (by decide +kernel) (by decide +kernel), rfl, by decide +kernel⟩
theorem yw_X4_why : yV yX4_why cX4_why 2 (some .int) RX4 1 := ⟨gwm 488 (by decide +kernel) (by decide +kernel), gwm 486 (by decide +kernel) (by decide +kernel), gwm 487 (by decide +kernel) (by decide +kernel), gwm 45 (by decide +kernel) (by decide +kernel), rfl, by decide +kernel⟩
theorem yw_X4_takenIn : yV yX4_takenIn cX4_takenIn 3 (some .int) RX4 1 := ⟨gwm 554 (by decide +kernel) (by decide +kernel), gwm 552 (by decide +kernel) (by decide +kernel), gwm 553 (by decide +kernel) (by decide +kernel), gwm 45 (by decide +kernel) (by decide +kernel), rfl, by decide +kernel⟩
theorem yw_X4_would : yV yX4_would cX4_would 3 (some .int) RX4 2 := ⟨gwm 497 (by decide +kernel) (by decide +kernel), gwm 495 (by decide +kernel) (by decide +kernel), gwm 496 (by decide +kernel) (by decide +kernel), gwm 45 (by decide +kernel) (by decide +kernel), rfl, by decide +kernel⟩
theorem yw_X4_bestCount : yV yX4_bestCount cX4_bestCount 8 (some .int) RX4 3 := ⟨gwm 537 (by decide +kernel) (by decide +kernel), gwm 535 (by decide +kernel) (by decide +kernel), gwm 536 (by decide +kernel) (by decide +kernel), gwm 45 (by decide +kernel) (by decide +kernel), rfl, by decide +kernel⟩
theorem yw_X4_put : yV yX4_put cX4_put 3 (some .int) RX4 1 := ⟨gwm 333 (by decide +kernel) (by decide +kernel), gwm 331 (by decide +kernel) (by decide +kernel), gwm 332 (by decide +kernel) (by decide +kernel), gwm 45 (by decide +kernel) (by decide +kernel), rfl, by decide +kernel⟩
theorem yw_X4_wipe : yV yX4_wipe cX4_wipe 1 (some .int) RX4 0 := ⟨gwm 324 (by decide +kernel) (by decide +kernel), gwm 322 (by decide +kernel) (by decide +kernel), gwm 323 (by decide +kernel) (by decide +kernel), gwm 45 (by decide +kernel) (by decide +kernel), rfl, by decide +kernel⟩
theorem yw_X4_carryOut : yV yX4_carryOut cX4_carryOut 5 (some .int) RX4 0 := ⟨gwm 352 (by decide +kernel) (by decide +kernel), gwm 350 (by decide +kernel) (by decide +kernel), gwm 351 (by decide +kernel) (by decide +kernel), gwm 45 (by decide +kernel) (by decide +kernel), rfl, by decide +kernel⟩
theorem yw_X4_save : yV yX4_save cX4_save 2 (some .int) RX4 1 := ⟨gwm 504 (by decide +kernel) (by decide +kernel), gwm 502 (by decide +kernel) (by decide +kernel), gwm 503 (by decide +kernel) (by decide +kernel), gwm 45 (by decide +kernel) (by decide +kernel), rfl, by decide +kernel⟩
theorem yw_X4_restore : yV yX4_restore cX4_restore 2 (some .int) RX4 1 := ⟨gwm 511 (by decide +kernel) (by decide +kernel), gwm 509 (by decide +kernel) (by decide +kernel), gwm 510 (by decide +kernel) (by decide +kernel), gwm 45 (by decide +kernel) (by decide +kernel), rfl, by decide +kernel⟩
theorem yw_X4_isQueue : yS yX4_isQueue cX4_isQueue 1 (some .boolean) 1 := ⟨gwm 310 (by decide +kernel) (by decide +kernel), gwm 309 (by decide +kernel) (by decide +kernel), gwm 45 (by decide +kernel) (by decide +kernel), by decide +kernel⟩
theorem yw_X4_isSlot : yS yX4_isSlot cX4_isSlot 1 (some .boolean) 1 := ⟨gwm 507 (by decide +kernel) (by decide +kernel), gwm 506 (by decide +kernel) (by decide +kernel), gwm 45 (by decide +kernel) (by decide +kernel), by decide +kernel⟩
theorem yw_X4_trialCost : yV yX4_trialCost cX4_trialCost 5 (some .int) RX4 3 := ⟨gwm 541 (by decide +kernel) (by decide +kernel), gwm 540 (by decide +kernel) (by decide +kernel), gwm 41 (by decide +kernel) (by decide +kernel), gwm 45 (by decide +kernel) (by decide +kernel), rfl, by decide +kernel⟩
theorem yw_X4_carryOrder : yV yX4_carryOrder cX4_carryOrder 1 (some .int) RX4 0 := ⟨gwm 398 (by decide +kernel) (by decide +kernel), gwm 397 (by decide +kernel) (by decide +kernel), gwm 22 (by decide +kernel) (by decide +kernel), gwm 45 (by decide +kernel) (by decide +kernel), rfl, by decide +kernel⟩
theorem yw_L_cell : yS yL_cell cL_cell 2 (some .int) 2 := ⟨gwm 244 (by decide +kernel) (by decide +kernel), gwm 243 (by decide +kernel) (by decide +kernel), gwm 44 (by decide +kernel) (by decide +kernel), by decide +kernel⟩
theorem yw_L_up : yS yL_up cL_up 2 (some .int) 2 := ⟨gwm 251 (by decide +kernel) (by decide +kernel), gwm 250 (by decide +kernel) (by decide +kernel), gwm 44 (by decide +kernel) (by decide +kernel), by decide +kernel⟩
theorem yw_L_number : yS yL_number cL_number 2 (some .boolean) 2 := ⟨gwm 347 (by decide +kernel) (by decide +kernel), gwm 346 (by decide +kernel) (by decide +kernel), gwm 44 (by decide +kernel) (by decide +kernel), by decide +kernel⟩
theorem yw_L_sum : yS yL_sum cL_sum 2 (some .int) 2 := ⟨gwm 471 (by decide +kernel) (by decide +kernel), gwm 470 (by decide +kernel) (by decide +kernel), gwm 44 (by decide +kernel) (by decide +kernel), by decide +kernel⟩
theorem yw_L_isStep : yS yL_isStep cL_isStep 14 (some .boolean) 4 := ⟨gwn (List.mem_append_right _ (List.mem_append_left _ (List.mem_of_getElem? (i := 204) rfl))) rfl, gwm 247 (by decide +kernel) (by decide +kernel), gwm 44 (by decide +kernel) (by decide +kernel), by decide +kernel⟩
theorem yw_L_areAlike : yS yL_areAlike cL_areAlike 8 (some .boolean) 3 := ⟨gwn (List.mem_append_right _ (List.mem_append_right _ (List.mem_append_left _ (List.mem_of_getElem? (i := 236) rfl)))) rfl, gwm 519 (by decide +kernel) (by decide +kernel), gwm 44 (by decide +kernel) (by decide +kernel), by decide +kernel⟩
theorem yw_L_isWell : yS yL_isWell cL_isWell 12 (some .boolean) 1 := ⟨gwn (List.mem_append_right _ (List.mem_append_right _ (List.mem_append_right _ (List.mem_of_getElem? (i := 33) rfl)))) rfl, gwm 556 (by decide +kernel) (by decide +kernel), gwm 44 (by decide +kernel) (by decide +kernel), by decide +kernel⟩
theorem lk_L_100 : Cond.methodLink RL 100 yX4_init ∈ GW := gwm 54 (by decide +kernel) (by decide +kernel)
theorem lk_X4_1 : Cond.methodLink RX4 1 Lib.objectInit ∈ GW := gwm 57 (by decide +kernel) (by decide +kernel)
theorem lk_X0_3 : Cond.methodLink RX0 3 Lib.objectInit ∈ GW := gwm 65 (by decide +kernel) (by decide +kernel)
theorem lk_X0_43 : Cond.methodLink RX0 43 arraycopyName ∈ GW := gwm 70 (by decide +kernel) (by decide +kernel)
theorem lk_X3_3 : Cond.methodLink RX3 3 Lib.objectInit ∈ GW := gwm 77 (by decide +kernel) (by decide +kernel)
theorem lk_X1_5 : Cond.methodLink RX1 5 Lib.objectInit ∈ GW := gwm 167 (by decide +kernel) (by decide +kernel)
theorem lk_X2_3 : Cond.methodLink RX2 3 Lib.objectInit ∈ GW := gwm 187 (by decide +kernel) (by decide +kernel)
theorem lk_L_101 : Cond.methodLink RL 101 yL_cell ∈ GW := gwm 242 (by decide +kernel) (by decide +kernel)
theorem lk_L_105 : Cond.methodLink RL 105 yL_isStep ∈ GW := gwm 246 (by decide +kernel) (by decide +kernel)
theorem lk_L_19 : Cond.methodLink RL 19 yL_up ∈ GW := gwm 249 (by decide +kernel) (by decide +kernel)
theorem lk_L_24 : Cond.methodLink RL 24 yX4_count ∈ GW := gwm 253 (by decide +kernel) (by decide +kernel)
theorem lk_X3_61 : Cond.methodLink RX3 61 yX3_isCalled ∈ GW := gwm 265 (by decide +kernel) (by decide +kernel)
theorem lk_L_28 : Cond.methodLink RL 28 yX4_set ∈ GW := gwm 273 (by decide +kernel) (by decide +kernel)
theorem lk_X1_29 : Cond.methodLink RX1 29 Lib.Math.min.name ∈ GW := gwm 301 (by decide +kernel) (by decide +kernel)
theorem lk_L_15 : Cond.methodLink RL 15 yX4_of ∈ GW := gwm 304 (by decide +kernel) (by decide +kernel)
theorem lk_X4_69 : Cond.methodLink RX4 69 yX4_isQueue ∈ GW := gwm 308 (by decide +kernel) (by decide +kernel)
theorem lk_L_31 : Cond.methodLink RL 31 yX4_bounds ∈ GW := gwm 312 (by decide +kernel) (by decide +kernel)
theorem lk_L_35 : Cond.methodLink RL 35 yX4_wipe ∈ GW := gwm 321 (by decide +kernel) (by decide +kernel)
theorem lk_L_9 : Cond.methodLink RL 9 yX4_put ∈ GW := gwm 330 (by decide +kernel) (by decide +kernel)
theorem lk_X2_42 : Cond.methodLink RX2 42 yX2_sizeOf ∈ GW := gwm 338 (by decide +kernel) (by decide +kernel)
theorem lk_L_43 : Cond.methodLink RL 43 yL_number ∈ GW := gwm 345 (by decide +kernel) (by decide +kernel)
theorem lk_L_49 : Cond.methodLink RL 49 yX4_carryOut ∈ GW := gwm 349 (by decide +kernel) (by decide +kernel)
theorem lk_X2_52 : Cond.methodLink RX2 52 yX2_startReading ∈ GW := gwm 357 (by decide +kernel) (by decide +kernel)
theorem lk_X2_55 : Cond.methodLink RX2 55 yX2_readOrder ∈ GW := gwm 361 (by decide +kernel) (by decide +kernel)
theorem lk_X2_59 : Cond.methodLink RX2 59 yX2_readSign ∈ GW := gwm 365 (by decide +kernel) (by decide +kernel)
theorem lk_X2_63 : Cond.methodLink RX2 63 yX2_readFrames ∈ GW := gwm 369 (by decide +kernel) (by decide +kernel)
theorem lk_X2_66 : Cond.methodLink RX2 66 yX2_readNumber ∈ GW := gwm 373 (by decide +kernel) (by decide +kernel)
theorem lk_X2_73 : Cond.methodLink RX2 73 yX2_readDigit ∈ GW := gwm 377 (by decide +kernel) (by decide +kernel)
theorem lk_X2_80 : Cond.methodLink RX2 80 yX2_digitStands ∈ GW := gwm 381 (by decide +kernel) (by decide +kernel)
theorem lk_X2_70 : Cond.methodLink RX2 70 yX2_readBounds ∈ GW := gwm 385 (by decide +kernel) (by decide +kernel)
theorem lk_X2_76 : Cond.methodLink RX2 76 yX2_demand ∈ GW := gwm 389 (by decide +kernel) (by decide +kernel)
theorem lk_X4_154 : Cond.methodLink RX4 154 yX4_carryOrder ∈ GW := gwm 395 (by decide +kernel) (by decide +kernel)
theorem lk_X0_99 : Cond.methodLink RX0 99 yX0_runTicks ∈ GW := gwm 407 (by decide +kernel) (by decide +kernel)
theorem lk_X0_103 : Cond.methodLink RX0 103 yX0_tick ∈ GW := gwm 411 (by decide +kernel) (by decide +kernel)
theorem lk_X0_107 : Cond.methodLink RX0 107 yX0_poll ∈ GW := gwm 415 (by decide +kernel) (by decide +kernel)
theorem lk_X0_114 : Cond.methodLink RX0 114 yX0_queueAt ∈ GW := gwm 419 (by decide +kernel) (by decide +kernel)
theorem lk_X0_117 : Cond.methodLink RX0 117 yX0_hasFrame ∈ GW := gwm 424 (by decide +kernel) (by decide +kernel)
theorem lk_X0_120 : Cond.methodLink RX0 120 yX0_takeOldest ∈ GW := gwm 428 (by decide +kernel) (by decide +kernel)
theorem lk_X0_124 : Cond.methodLink RX0 124 yX0_leaveRow ∈ GW := gwm 436 (by decide +kernel) (by decide +kernel)
theorem lk_X3_52 : Cond.methodLink RX3 52 Lib.Math.min.name ∈ GW := gwm 444 (by decide +kernel) (by decide +kernel)
theorem lk_X3_58 : Cond.methodLink RX3 58 Lib.Math.max.name ∈ GW := gwm 445 (by decide +kernel) (by decide +kernel)
theorem lk_X0_131 : Cond.methodLink RX0 131 yX0_rowLength ∈ GW := gwm 448 (by decide +kernel) (by decide +kernel)
theorem lk_X0_110 : Cond.methodLink RX0 110 yX0_whySilent ∈ GW := gwm 452 (by decide +kernel) (by decide +kernel)
theorem lk_X0_93 : Cond.methodLink RX0 93 yX0_enterRow ∈ GW := gwm 456 (by decide +kernel) (by decide +kernel)
theorem lk_L_52 : Cond.methodLink RL 52 yX4_mask ∈ GW := gwm 464 (by decide +kernel) (by decide +kernel)
theorem lk_L_57 : Cond.methodLink RL 57 yL_sum ∈ GW := gwm 469 (by decide +kernel) (by decide +kernel)
theorem lk_L_61 : Cond.methodLink RL 61 yX4_call ∈ GW := gwm 472 (by decide +kernel) (by decide +kernel)
theorem lk_L_64 : Cond.methodLink RL 64 yX4_row ∈ GW := gwm 480 (by decide +kernel) (by decide +kernel)
theorem lk_L_67 : Cond.methodLink RL 67 yX4_why ∈ GW := gwm 485 (by decide +kernel) (by decide +kernel)
theorem lk_L_70 : Cond.methodLink RL 70 yX4_pass ∈ GW := gwm 490 (by decide +kernel) (by decide +kernel)
theorem lk_L_73 : Cond.methodLink RL 73 yX4_would ∈ GW := gwm 494 (by decide +kernel) (by decide +kernel)
theorem lk_L_78 : Cond.methodLink RL 78 yX4_save ∈ GW := gwm 501 (by decide +kernel) (by decide +kernel)
theorem lk_X4_161 : Cond.methodLink RX4 161 yX4_isSlot ∈ GW := gwm 505 (by decide +kernel) (by decide +kernel)
theorem lk_L_81 : Cond.methodLink RL 81 yX4_restore ∈ GW := gwm 508 (by decide +kernel) (by decide +kernel)
theorem lk_L_84 : Cond.methodLink RL 84 yX4_come ∈ GW := gwm 512 (by decide +kernel) (by decide +kernel)
theorem lk_L_113 : Cond.methodLink RL 113 yL_areAlike ∈ GW := gwm 518 (by decide +kernel) (by decide +kernel)
theorem lk_L_91 : Cond.methodLink RL 91 yX4_frame ∈ GW := gwm 521 (by decide +kernel) (by decide +kernel)
theorem lk_X0_144 : Cond.methodLink RX0 144 yX0_waitOf ∈ GW := gwm 530 (by decide +kernel) (by decide +kernel)
theorem lk_L_94 : Cond.methodLink RL 94 yX4_bestCount ∈ GW := gwm 534 (by decide +kernel) (by decide +kernel)
theorem lk_X4_131 : Cond.methodLink RX4 131 yX4_trialCost ∈ GW := gwm 538 (by decide +kernel) (by decide +kernel)
theorem lk_L_97 : Cond.methodLink RL 97 yX4_takenIn ∈ GW := gwm 551 (by decide +kernel) (by decide +kernel)
theorem lk_L_109 : Cond.methodLink RL 109 yL_isWell ∈ GW := gwm 555 (by decide +kernel) (by decide +kernel)
theorem lkn_X4_9 : Cond.methodLinkNest RX4 9 yX0_init RX4 ∈ NWL := nwm 18 (by decide +kernel) rfl
theorem lkn_X0_49 : Cond.methodLinkNest RX0 49 yX3_init RX4 ∈ NWL := nwm 30 (by decide +kernel) rfl
theorem lkn_X4_29 : Cond.methodLinkNest RX4 29 yX1_init RX4 ∈ NWL := nwm 120 (by decide +kernel) rfl
theorem lkn_X1_24 : Cond.methodLinkNest RX1 24 yX0_init RX4 ∈ NWL := nwm 125 (by decide +kernel) rfl
theorem lkn_X4_36 : Cond.methodLinkNest RX4 36 yX2_init RX4 ∈ NWL := nwm 140 (by decide +kernel) rfl
theorem lkn_X4_98 : Cond.methodLinkNest RX4 98 yX0_total RX4 ∈ NWL := nwm 213 (by decide +kernel) rfl
theorem lkn_X0_147 : Cond.methodLinkNest RX0 147 yX3_fact RX4 ∈ NWL := nwm 217 (by decide +kernel) rfl
theorem lkn_X4_101 : Cond.methodLinkNest RX4 101 yX0_maskedSet RX4 ∈ NWL := nwm 225 (by decide +kernel) rfl
theorem lkn_X4_41 : Cond.methodLinkNest RX4 41 yX1_prepare RX4 ∈ NWL := nwm 233 (by decide +kernel) rfl
theorem lkn_X1_25 : Cond.methodLinkNest RX1 25 yX0_copyFrom RX4 ∈ NWL := nwm 237 (by decide +kernel) rfl
theorem lkn_X0_50 : Cond.methodLinkNest RX0 50 yX3_copyFrom RX4 ∈ NWL := nwm 241 (by decide +kernel) rfl
theorem lkn_X4_45 : Cond.methodLinkNest RX4 45 yX0_changeSetting RX4 ∈ NWL := nwm 245 (by decide +kernel) rfl
theorem lkn_X4_49 : Cond.methodLinkNest RX4 49 yX1_keepIfDone RX4 ∈ NWL := nwm 253 (by decide +kernel) rfl
theorem lkn_X4_77 : Cond.methodLinkNest RX4 77 yX3_fact RX4 ∈ NWL := nwm 267 (by decide +kernel) rfl
theorem lkn_X4_53 : Cond.methodLinkNest RX4 53 yX0_changeBounds RX4 ∈ NWL := nwm 272 (by decide +kernel) rfl
theorem lkn_X0_63 : Cond.methodLinkNest RX0 63 yX4_isQueue RX4 ∈ NWL := nwm 276 (by decide +kernel) rfl
theorem lkn_X4_138 : Cond.methodLinkNest RX4 138 yX2_clear RX4 ∈ NWL := nwm 281 (by decide +kernel) rfl
theorem lkn_X4_134 : Cond.methodLinkNest RX4 134 yX2_append RX4 ∈ NWL := nwm 290 (by decide +kernel) rfl
theorem lkn_X4_141 : Cond.methodLinkNest RX4 141 yX2_firstFault RX4 ∈ NWL := nwm 309 (by decide +kernel) rfl
theorem lkn_X4_144 : Cond.methodLinkNest RX4 144 yX2_startReading RX4 ∈ NWL := nwm 349 (by decide +kernel) rfl
theorem lkn_X4_147 : Cond.methodLinkNest RX4 147 yX2_readOrder RX4 ∈ NWL := nwm 350 (by decide +kernel) rfl
theorem lkn_X4_57 : Cond.methodLinkNest RX4 57 yX0_receive RX4 ∈ NWL := nwm 355 (by decide +kernel) rfl
theorem lkn_X4_66 : Cond.methodLinkNest RX4 66 yX0_passTicks RX4 ∈ NWL := nwm 359 (by decide +kernel) rfl
theorem lkn_X0_89 : Cond.methodLinkNest RX0 89 yX3_isCalled RX4 ∈ NWL := nwm 379 (by decide +kernel) rfl
theorem lkn_X0_134 : Cond.methodLinkNest RX0 134 yX3_noteTaken RX4 ∈ NWL := nwm 388 (by decide +kernel) rfl
theorem lkn_X0_127 : Cond.methodLinkNest RX0 127 yX3_becomeIdle RX4 ∈ NWL := nwm 396 (by decide +kernel) rfl
theorem lkn_X4_60 : Cond.methodLinkNest RX4 60 yX0_changeMask RX4 ∈ NWL := nwm 416 (by decide +kernel) rfl
theorem lkn_X4_63 : Cond.methodLinkNest RX4 63 yX0_callByHand RX4 ∈ NWL := nwm 432 (by decide +kernel) rfl
theorem lkn_X4_88 : Cond.methodLinkNest RX4 88 yX0_queueAt RX4 ∈ NWL := nwm 440 (by decide +kernel) rfl
theorem lkn_X4_115 : Cond.methodLinkNest RX4 115 yX0_whySilent RX4 ∈ NWL := nwm 445 (by decide +kernel) rfl
theorem lkn_X4_122 : Cond.methodLinkNest RX4 122 yX0_copyFrom RX4 ∈ NWL := nwm 454 (by decide +kernel) rfl
theorem lkn_X4_128 : Cond.methodLinkNest RX4 128 yX0_runTicks RX4 ∈ NWL := nwm 455 (by decide +kernel) rfl
theorem lkn_X4_82 : Cond.methodLinkNest RX4 82 yX0_hasFrame RX4 ∈ NWL := nwm 481 (by decide +kernel) rfl
theorem lkn_X4_85 : Cond.methodLinkNest RX4 85 yX0_frameFact RX4 ∈ NWL := nwm 482 (by decide +kernel) rfl
theorem lkn_X4_164 : Cond.methodLinkNest RX4 164 yX0_emptyLike RX4 ∈ NWL := nwm 498 (by decide +kernel) rfl
theorem lkn_X0_54 : Cond.methodLinkNest RX0 54 yX3_emptyLike RX4 ∈ NWL := nwm 502 (by decide +kernel) rfl
theorem lkn_X4_125 : Cond.methodLinkNest RX4 125 yX0_tick RX4 ∈ NWL := nwm 506 (by decide +kernel) rfl
theorem fl_X3_9 : Cond.fieldLink RX3 9 RX3 "count" "I" ∈ GW := gwm 78 (by decide +kernel) (by decide +kernel)
theorem fl_X3_15 : Cond.fieldLink RX3 15 RX3 "wait" "I" ∈ GW := gwm 80 (by decide +kernel) (by decide +kernel)
theorem fl_X3_18 : Cond.fieldLink RX3 18 RX3 "inUse" "I" ∈ GW := gwm 83 (by decide +kernel) (by decide +kernel)
theorem fl_X3_21 : Cond.fieldLink RX3 21 RX3 "place" "I" ∈ GW := gwm 85 (by decide +kernel) (by decide +kernel)
theorem fl_X3_24 : Cond.fieldLink RX3 24 RX3 "masked" "Z" ∈ GW := gwm 87 (by decide +kernel) (by decide +kernel)
theorem fl_X3_28 : Cond.fieldLink RX3 28 RX3 "inRing" "I" ∈ GW := gwm 89 (by decide +kernel) (by decide +kernel)
theorem fl_X3_31 : Cond.fieldLink RX3 31 RX3 "oldest" "I" ∈ GW := gwm 92 (by decide +kernel) (by decide +kernel)
theorem fl_X3_34 : Cond.fieldLink RX3 34 RX3 "calls" "I" ∈ GW := gwm 94 (by decide +kernel) (by decide +kernel)
theorem fl_X3_37 : Cond.fieldLink RX3 37 RX3 "taken" "I" ∈ GW := gwm 96 (by decide +kernel) (by decide +kernel)
theorem fl_X3_40 : Cond.fieldLink RX3 40 RX3 "dropped" "I" ∈ GW := gwm 97 (by decide +kernel) (by decide +kernel)
theorem fl_X3_43 : Cond.fieldLink RX3 43 RX3 "waited" "I" ∈ GW := gwm 99 (by decide +kernel) (by decide +kernel)
theorem fl_X3_46 : Cond.fieldLink RX3 46 RX3 "longest" "I" ∈ GW := gwm 100 (by decide +kernel) (by decide +kernel)
theorem fl_X3_49 : Cond.fieldLink RX3 49 RX3 "sinceCall" "I" ∈ GW := gwm 101 (by decide +kernel) (by decide +kernel)
theorem fl_X0_13 : Cond.fieldLink RX0 13 RX0 "settings" "[I" ∈ GW := gwm 131 (by decide +kernel) (by decide +kernel)
theorem fl_X0_20 : Cond.fieldLink RX0 20 RX0 "queues" "[LCoalescedCalls$Queue;" ∈ GW := gwm 133 (by decide +kernel) (by decide +kernel)
theorem fl_X0_24 : Cond.fieldLink RX0 24 RX0 "time" "I" ∈ GW := gwm 135 (by decide +kernel) (by decide +kernel)
theorem fl_X0_28 : Cond.fieldLink RX0 28 RX0 "came" "I" ∈ GW := gwm 137 (by decide +kernel) (by decide +kernel)
theorem fl_X0_31 : Cond.fieldLink RX0 31 RX0 "flow" "[I" ∈ GW := gwm 139 (by decide +kernel) (by decide +kernel)
theorem fl_X0_34 : Cond.fieldLink RX0 34 RX0 "cameAt" "[I" ∈ GW := gwm 140 (by decide +kernel) (by decide +kernel)
theorem fl_X0_37 : Cond.fieldLink RX0 37 RX0 "how" "[I" ∈ GW := gwm 141 (by decide +kernel) (by decide +kernel)
theorem fl_X0_40 : Cond.fieldLink RX0 40 RX0 "takenAt" "[I" ∈ GW := gwm 143 (by decide +kernel) (by decide +kernel)
theorem fl_X1_13 : Cond.fieldLink RX1 13 RX1 "states" "[LCoalescedCalls$Card;" ∈ GW := gwm 170 (by decide +kernel) (by decide +kernel)
theorem fl_X1_17 : Cond.fieldLink RX1 17 RX1 "next" "I" ∈ GW := gwm 171 (by decide +kernel) (by decide +kernel)
theorem fl_X1_21 : Cond.fieldLink RX1 21 RX1 "size" "I" ∈ GW := gwm 172 (by decide +kernel) (by decide +kernel)
theorem fl_X2_11 : Cond.fieldLink RX2 11 RX2 "signs" "[C" ∈ GW := gwm 188 (by decide +kernel) (by decide +kernel)
theorem fl_X2_15 : Cond.fieldLink RX2 15 RX2 "length" "I" ∈ GW := gwm 189 (by decide +kernel) (by decide +kernel)
theorem fl_X2_19 : Cond.fieldLink RX2 19 RX2 "at" "I" ∈ GW := gwm 191 (by decide +kernel) (by decide +kernel)
theorem fl_X2_22 : Cond.fieldLink RX2 22 RX2 "broken" "Z" ∈ GW := gwm 192 (by decide +kernel) (by decide +kernel)
theorem fl_X2_26 : Cond.fieldLink RX2 26 RX2 "kind" "C" ∈ GW := gwm 193 (by decide +kernel) (by decide +kernel)
theorem fl_X2_30 : Cond.fieldLink RX2 30 RX2 "first" "I" ∈ GW := gwm 195 (by decide +kernel) (by decide +kernel)
theorem fl_X2_33 : Cond.fieldLink RX2 33 RX2 "second" "I" ∈ GW := gwm 197 (by decide +kernel) (by decide +kernel)
theorem fl_X2_36 : Cond.fieldLink RX2 36 RX2 "third" "I" ∈ GW := gwm 199 (by decide +kernel) (by decide +kernel)
theorem fl_X2_39 : Cond.fieldLink RX2 39 RX2 "times" "I" ∈ GW := gwm 201 (by decide +kernel) (by decide +kernel)
theorem fl_X4_10 : Cond.fieldLink RX4 10 RX4 "card" "LCoalescedCalls$Card;" ∈ GW := gwm 223 (by decide +kernel) (by decide +kernel)
theorem fl_X4_16 : Cond.fieldLink RX4 16 RX4 "probe" "LCoalescedCalls$Card;" ∈ GW := gwm 224 (by decide +kernel) (by decide +kernel)
theorem fl_X4_19 : Cond.fieldLink RX4 19 RX4 "slots" "[LCoalescedCalls$Card;" ∈ GW := gwm 225 (by decide +kernel) (by decide +kernel)
theorem fl_X4_23 : Cond.fieldLink RX4 23 RX4 "saved" "[Z" ∈ GW := gwm 226 (by decide +kernel) (by decide +kernel)
theorem fl_X4_30 : Cond.fieldLink RX4 30 RX4 "history" "LCoalescedCalls$History;" ∈ GW := gwm 227 (by decide +kernel) (by decide +kernel)
theorem fl_X4_37 : Cond.fieldLink RX4 37 RX4 "pad" "LCoalescedCalls$Pad;" ∈ GW := gwm 228 (by decide +kernel) (by decide +kernel)
theorem fln_X0_9 : Cond.fieldLinkNest RX0 9 RX4 "FIRST_VALUES" "[I" RX4 ∈ NWL := nwm 22 (by decide +kernel) rfl
theorem fln_X0_67 : Cond.fieldLinkNest RX0 67 RX3 "count" "I" RX4 ∈ NWL := nwm 35 (by decide +kernel) rfl
theorem fln_X0_70 : Cond.fieldLinkNest RX0 70 RX3 "wait" "I" RX4 ∈ NWL := nwm 37 (by decide +kernel) rfl
theorem fln_X4_167 : Cond.fieldLinkNest RX4 167 RX3 "wait" "I" RX4 ∈ NWL := nwm 38 (by decide +kernel) rfl
theorem fln_X0_73 : Cond.fieldLinkNest RX0 73 RX3 "inUse" "I" RX4 ∈ NWL := nwm 40 (by decide +kernel) rfl
theorem fln_X0_96 : Cond.fieldLinkNest RX0 96 RX3 "place" "I" RX4 ∈ NWL := nwm 42 (by decide +kernel) rfl
theorem fln_X0_85 : Cond.fieldLinkNest RX0 85 RX3 "masked" "Z" RX4 ∈ NWL := nwm 44 (by decide +kernel) rfl
theorem fln_X0_76 : Cond.fieldLinkNest RX0 76 RX3 "inRing" "I" RX4 ∈ NWL := nwm 46 (by decide +kernel) rfl
theorem fln_X4_170 : Cond.fieldLinkNest RX4 170 RX3 "inRing" "I" RX4 ∈ NWL := nwm 47 (by decide +kernel) rfl
theorem fln_X0_82 : Cond.fieldLinkNest RX0 82 RX3 "oldest" "I" RX4 ∈ NWL := nwm 49 (by decide +kernel) rfl
theorem fln_X0_138 : Cond.fieldLinkNest RX0 138 RX3 "calls" "I" RX4 ∈ NWL := nwm 51 (by decide +kernel) rfl
theorem fln_X0_79 : Cond.fieldLinkNest RX0 79 RX3 "dropped" "I" RX4 ∈ NWL := nwm 54 (by decide +kernel) rfl
theorem fln_X0_141 : Cond.fieldLinkNest RX0 141 RX3 "sinceCall" "I" RX4 ∈ NWL := nwm 58 (by decide +kernel) rfl
theorem fln_X4_105 : Cond.fieldLinkNest RX4 105 RX0 "settings" "[I" RX4 ∈ NWL := nwm 88 (by decide +kernel) rfl
theorem fln_X4_73 : Cond.fieldLinkNest RX4 73 RX0 "queues" "[LCoalescedCalls$Queue;" RX4 ∈ NWL := nwm 90 (by decide +kernel) rfl
theorem fln_X4_91 : Cond.fieldLinkNest RX4 91 RX0 "time" "I" RX4 ∈ NWL := nwm 92 (by decide +kernel) rfl
theorem fln_X4_95 : Cond.fieldLinkNest RX4 95 RX0 "came" "I" RX4 ∈ NWL := nwm 94 (by decide +kernel) rfl
theorem fln_X4_119 : Cond.fieldLinkNest RX4 119 RX0 "how" "[I" RX4 ∈ NWL := nwm 98 (by decide +kernel) rfl
theorem fln_X4_112 : Cond.fieldLinkNest RX4 112 RX1 "size" "I" RX4 ∈ NWL := nwm 129 (by decide +kernel) rfl
theorem fln_X4_109 : Cond.fieldLinkNest RX4 109 RX2 "length" "I" RX4 ∈ NWL := nwm 146 (by decide +kernel) rfl
theorem fln_X4_173 : Cond.fieldLinkNest RX4 173 RX2 "kind" "C" RX4 ∈ NWL := nwm 150 (by decide +kernel) rfl
theorem fln_X4_177 : Cond.fieldLinkNest RX4 177 RX2 "first" "I" RX4 ∈ NWL := nwm 152 (by decide +kernel) rfl
theorem fln_X4_180 : Cond.fieldLinkNest RX4 180 RX2 "second" "I" RX4 ∈ NWL := nwm 154 (by decide +kernel) rfl
theorem fln_X4_183 : Cond.fieldLinkNest RX4 183 RX2 "third" "I" RX4 ∈ NWL := nwm 156 (by decide +kernel) rfl
theorem fln_X4_151 : Cond.fieldLinkNest RX4 151 RX2 "times" "I" RX4 ∈ NWL := nwm 158 (by decide +kernel) rfl
theorem fln_X0_57 : Cond.fieldLinkNest RX0 57 RX4 "LEAST_VALUES" "[I" RX4 ∈ NWL := nwm 249 (by decide +kernel) rfl
theorem fln_X0_60 : Cond.fieldLinkNest RX0 60 RX4 "MOST_VALUES" "[I" RX4 ∈ NWL := nwm 251 (by decide +kernel) rfl
theorem kl_L_39 : Cond.constantLong RL 39 (113) ∈ GW := gwm 329 (by decide +kernel) (by decide +kernel)
theorem kl_X2_46 : Cond.constantLong RX2 46 (255) ∈ GW := gwm 341 (by decide +kernel) (by decide +kernel)
theorem kl_X2_48 : Cond.constantLong RX2 48 (33) ∈ GW := gwm 342 (by decide +kernel) (by decide +kernel)
theorem kl_X2_50 : Cond.constantLong RX2 50 (126) ∈ GW := gwm 343 (by decide +kernel) (by decide +kernel)
theorem kl_L_41 : Cond.constantLong RL 41 (61) ∈ GW := gwm 344 (by decide +kernel) (by decide +kernel)
theorem kl_L_47 : Cond.constantLong RL 47 (44) ∈ GW := gwm 348 (by decide +kernel) (by decide +kernel)
theorem kl_L_55 : Cond.constantLong RL 55 (109) ∈ GW := gwm 468 (by decide +kernel) (by decide +kernel)
theorem kl_L_76 : Cond.constantLong RL 76 (116) ∈ GW := gwm 500 (by decide +kernel) (by decide +kernel)
theorem kl_L_87 : Cond.constantLong RL 87 (102) ∈ GW := gwm 516 (by decide +kernel) (by decide +kernel)
theorem kl_L_89 : Cond.constantLong RL 89 (42) ∈ GW := gwm 517 (by decide +kernel) (by decide +kernel)
theorem ki_L_7 : Cond.constant RL 7 (2144986049) ∈ GW := gwm 245 (by decide +kernel) (by decide +kernel)
theorem ki_L_8 : Cond.constant RL 8 (2147483647) ∈ GW := gwm 252 (by decide +kernel) (by decide +kernel)
theorem cl_L_10 : Cond.classLink RL 10 RX4 ∈ GW := gwm 52 (by decide +kernel) (by decide +kernel)
theorem cl_X4_7 : Cond.classLink RX4 7 RX0 ∈ GW := gwm 60 (by decide +kernel) (by decide +kernel)
theorem cl_X0_18 : Cond.classLink RX0 18 RX3 ∈ GW := gwm 68 (by decide +kernel) (by decide +kernel)
theorem cl_X4_27 : Cond.classLink RX4 27 RX1 ∈ GW := gwm 162 (by decide +kernel) (by decide +kernel)
theorem cl_X1_11 : Cond.classLink RX1 11 RX0 ∈ GW := gwm 168 (by decide +kernel) (by decide +kernel)
theorem cl_X4_34 : Cond.classLink RX4 34 RX2 ∈ GW := gwm 182 (by decide +kernel) (by decide +kernel)
theorem mk_X4 : Cond.instantiable RX4 6 ∈ GW := gwm 53 (by decide +kernel) (by decide +kernel)
theorem mk_X0 : Cond.instantiable RX0 8 ∈ GW := gwm 61 (by decide +kernel) (by decide +kernel)
theorem mk_X3 : Cond.instantiable RX3 13 ∈ GW := gwm 73 (by decide +kernel) (by decide +kernel)
theorem mk_X1 : Cond.instantiable RX1 3 ∈ GW := gwm 163 (by decide +kernel) (by decide +kernel)
theorem mk_X2 : Cond.instantiable RX2 9 ∈ GW := gwm 183 (by decide +kernel) (by decide +kernel)
theorem ac_int : Cond.arrayClass .int ∈ GW := gwm 130 (by decide +kernel) (by decide +kernel)
theorem ac_boolean : Cond.arrayClass .boolean ∈ GW := gwm 181 (by decide +kernel) (by decide +kernel)
theorem ac_char : Cond.arrayClass .char ∈ GW := gwm 222 (by decide +kernel) (by decide +kernel)
theorem st_max : Cond.static Lib.Math.max.name ∈ GW := gwm 446 (by decide +kernel) (by decide +kernel)
theorem cd_max : Cond.code Lib.Math.max.name Lib.Math.max.code 2 (some .int) ∈ GW := gwm 447 (by decide +kernel) (by decide +kernel)
theorem st_min : Cond.static Lib.Math.min.name ∈ GW := gwm 302 (by decide +kernel) (by decide +kernel)
theorem cd_min : Cond.code Lib.Math.min.name Lib.Math.min.code 2 (some .int) ∈ GW := gwm 303 (by decide +kernel) (by decide +kernel)
theorem ini_Math : Cond.initialized "java/lang/Math" ∈ GW := gwm 51 (by decide +kernel) (by decide +kernel)
theorem ini_System : Cond.initialized "java/lang/System" ∈ GW := gwm 47 (by decide +kernel) (by decide +kernel)
theorem st_copy : Cond.static arraycopyName ∈ GW := gwm 71 (by decide +kernel) (by decide +kernel)
theorem nat_copy : Cond.native arraycopyName ∈ GW := gwm 72 (by decide +kernel) (by decide +kernel)
theorem in_obj : Cond.instanceMethod Lib.objectInit ∈ GW := gwm 58 (by decide +kernel) (by decide +kernel)
theorem cd_obj : Cond.code Lib.objectInit ⟨#[0xb1]⟩ 1 none ∈ GW := gwm 59 (by decide +kernel) (by decide +kernel)
end
