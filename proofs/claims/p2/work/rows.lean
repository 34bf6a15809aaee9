section
-- ===== PART A: goes FIRST, ahead of the names: the tables' words, and 'selects' of the private methods out of them =====
/-- a private method of a class that the tables say can be made, by its rows of tables_1 -/
def lw_okq (q : MethodName × Nat) : Prop := (q.1.cls ≠ "java/lang/invoke/MethodHandle" ∧ q.1.cls ≠ "java/lang/invoke/VarHandle") ∧ Cond.instantiable q.1.cls q.2 ∈ tables_1 ∧ Cond.privateMethod q.1 ∈ tables_1 ∧ Cond.instanceMethod q.1 ∈ tables_1
theorem lw_p0 : lw_okq (⟨"AreaRouters$Wiring", "circuitsOf", "(I)I"⟩, 2) := ⟨⟨by decide +kernel, by decide +kernel⟩, List.mem_of_getElem? (i := 24) (by decide +kernel), List.mem_of_getElem? (i := 163) (by decide +kernel), List.mem_of_getElem? (i := 164) (by decide +kernel)⟩
theorem lw_p1 : lw_okq (⟨"AreaRouters$Wiring", "isAttached", "(II)Z"⟩, 2) := ⟨⟨by decide +kernel, by decide +kernel⟩, List.mem_of_getElem? (i := 24) (by decide +kernel), List.mem_of_getElem? (i := 167) (by decide +kernel), List.mem_of_getElem? (i := 168) (by decide +kernel)⟩
theorem lw_p2 : lw_okq (⟨"AreaRouters$Wiring", "countOn", "(I)I"⟩, 2) := ⟨⟨by decide +kernel, by decide +kernel⟩, List.mem_of_getElem? (i := 24) (by decide +kernel), List.mem_of_getElem? (i := 179) (by decide +kernel), List.mem_of_getElem? (i := 180) (by decide +kernel)⟩
theorem lw_p3 : lw_okq (⟨"AreaRouters$Wiring", "join", "(IIII)V"⟩, 2) := ⟨⟨by decide +kernel, by decide +kernel⟩, List.mem_of_getElem? (i := 24) (by decide +kernel), List.mem_of_getElem? (i := 183) (by decide +kernel), List.mem_of_getElem? (i := 184) (by decide +kernel)⟩
theorem lw_p4 : lw_okq (⟨"AreaRouters$Hearing", "age", "()V"⟩, 2) := ⟨⟨by decide +kernel, by decide +kernel⟩, List.mem_of_getElem? (i := 39) (by decide +kernel), List.mem_of_getElem? (i := 191) (by decide +kernel), List.mem_of_getElem? (i := 192) (by decide +kernel)⟩
theorem lw_p5 : lw_okq (⟨"AreaRouters", "baseOf", "(II)LAreaRouters$Base;"⟩, 7) := ⟨⟨by decide +kernel, by decide +kernel⟩, List.mem_of_getElem? (i := 16) (by decide +kernel), List.mem_of_getElem? (i := 195) (by decide +kernel), List.mem_of_getElem? (i := 196) (by decide +kernel)⟩
theorem lw_p6 : lw_okq (⟨"AreaRouters$Base", "age", "(I)V"⟩, 10) := ⟨⟨by decide +kernel, by decide +kernel⟩, List.mem_of_getElem? (i := 54) (by decide +kernel), List.mem_of_getElem? (i := 199) (by decide +kernel), List.mem_of_getElem? (i := 200) (by decide +kernel)⟩
theorem lw_p7 : lw_okq (⟨"AreaRouters$Base", "isAlive", "(I)Z"⟩, 10) := ⟨⟨by decide +kernel, by decide +kernel⟩, List.mem_of_getElem? (i := 54) (by decide +kernel), List.mem_of_getElem? (i := 203) (by decide +kernel), List.mem_of_getElem? (i := 204) (by decide +kernel)⟩
theorem lw_p8 : lw_okq (⟨"AreaRouters$Base", "end", "(II)V"⟩, 10) := ⟨⟨by decide +kernel, by decide +kernel⟩, List.mem_of_getElem? (i := 54) (by decide +kernel), List.mem_of_getElem? (i := 207) (by decide +kernel), List.mem_of_getElem? (i := 208) (by decide +kernel)⟩
theorem lw_p9 : lw_okq (⟨"AreaRouters$Base", "has", "(I)Z"⟩, 10) := ⟨⟨by decide +kernel, by decide +kernel⟩, List.mem_of_getElem? (i := 54) (by decide +kernel), List.mem_of_getElem? (i := 211) (by decide +kernel), List.mem_of_getElem? (i := 212) (by decide +kernel)⟩
theorem lw_p10 : lw_okq (⟨"AreaRouters$Base", "remove", "(I)V"⟩, 10) := ⟨⟨by decide +kernel, by decide +kernel⟩, List.mem_of_getElem? (i := 54) (by decide +kernel), List.mem_of_getElem? (i := 215) (by decide +kernel), List.mem_of_getElem? (i := 216) (by decide +kernel)⟩
theorem lw_p11 : lw_okq (⟨"AreaRouters", "hearingAt", "(I)LAreaRouters$Hearing;"⟩, 7) := ⟨⟨by decide +kernel, by decide +kernel⟩, List.mem_of_getElem? (i := 16) (by decide +kernel), List.mem_of_getElem? (i := 226) (by decide +kernel), List.mem_of_getElem? (i := 227) (by decide +kernel)⟩
theorem lw_p12 : lw_okq (⟨"AreaRouters$Hearing", "isMutual", "(III)Z"⟩, 2) := ⟨⟨by decide +kernel, by decide +kernel⟩, List.mem_of_getElem? (i := 39) (by decide +kernel), List.mem_of_getElem? (i := 230) (by decide +kernel), List.mem_of_getElem? (i := 231) (by decide +kernel)⟩
theorem lw_p13 : lw_okq (⟨"AreaRouters", "hasLevel", "(II)Z"⟩, 7) := ⟨⟨by decide +kernel, by decide +kernel⟩, List.mem_of_getElem? (i := 16) (by decide +kernel), List.mem_of_getElem? (i := 238) (by decide +kernel), List.mem_of_getElem? (i := 239) (by decide +kernel)⟩
theorem lw_p14 : lw_okq (⟨"AreaRouters", "speakerSeenBy", "(III)I"⟩, 7) := ⟨⟨by decide +kernel, by decide +kernel⟩, List.mem_of_getElem? (i := 16) (by decide +kernel), List.mem_of_getElem? (i := 242) (by decide +kernel), List.mem_of_getElem? (i := 243) (by decide +kernel)⟩
theorem lw_p15 : lw_okq (⟨"AreaRouters$Wiring", "priorityOf", "(II)I"⟩, 2) := ⟨⟨by decide +kernel, by decide +kernel⟩, List.mem_of_getElem? (i := 24) (by decide +kernel), List.mem_of_getElem? (i := 246) (by decide +kernel), List.mem_of_getElem? (i := 247) (by decide +kernel)⟩
def lw_privs_1 : List (MethodName × Nat) := [(⟨"AreaRouters$Wiring", "circuitsOf", "(I)I"⟩, 2), (⟨"AreaRouters$Wiring", "isAttached", "(II)Z"⟩, 2), (⟨"AreaRouters$Wiring", "countOn", "(I)I"⟩, 2), (⟨"AreaRouters$Wiring", "join", "(IIII)V"⟩, 2), (⟨"AreaRouters$Hearing", "age", "()V"⟩, 2), (⟨"AreaRouters", "baseOf", "(II)LAreaRouters$Base;"⟩, 7), (⟨"AreaRouters$Base", "age", "(I)V"⟩, 10), (⟨"AreaRouters$Base", "isAlive", "(I)Z"⟩, 10), (⟨"AreaRouters$Base", "end", "(II)V"⟩, 10), (⟨"AreaRouters$Base", "has", "(I)Z"⟩, 10), (⟨"AreaRouters$Base", "remove", "(I)V"⟩, 10), (⟨"AreaRouters", "hearingAt", "(I)LAreaRouters$Hearing;"⟩, 7), (⟨"AreaRouters$Hearing", "isMutual", "(III)Z"⟩, 2), (⟨"AreaRouters", "hasLevel", "(II)Z"⟩, 7), (⟨"AreaRouters", "speakerSeenBy", "(III)I"⟩, 7), (⟨"AreaRouters$Wiring", "priorityOf", "(II)I"⟩, 2)]
theorem lw_r1 : ∀ q ∈ lw_privs_1, lw_okq q := List.forall_mem_cons.mpr ⟨lw_p0, List.forall_mem_cons.mpr ⟨lw_p1, List.forall_mem_cons.mpr ⟨lw_p2, List.forall_mem_cons.mpr ⟨lw_p3, List.forall_mem_cons.mpr ⟨lw_p4, List.forall_mem_cons.mpr ⟨lw_p5, List.forall_mem_cons.mpr ⟨lw_p6, List.forall_mem_cons.mpr ⟨lw_p7, List.forall_mem_cons.mpr ⟨lw_p8, List.forall_mem_cons.mpr ⟨lw_p9, List.forall_mem_cons.mpr ⟨lw_p10, List.forall_mem_cons.mpr ⟨lw_p11, List.forall_mem_cons.mpr ⟨lw_p12, List.forall_mem_cons.mpr ⟨lw_p13, List.forall_mem_cons.mpr ⟨lw_p14, List.forall_mem_cons.mpr ⟨lw_p15, fun _ h => absurd h List.not_mem_nil⟩⟩⟩⟩⟩⟩⟩⟩⟩⟩⟩⟩⟩⟩⟩⟩
theorem lw_p16 : lw_okq (⟨"AreaRouters$Base", "tell", "(II)I"⟩, 10) := ⟨⟨by decide +kernel, by decide +kernel⟩, List.mem_of_getElem? (i := 54) (by decide +kernel), List.mem_of_getElem? (i := 257) (by decide +kernel), List.mem_of_getElem? (i := 258) (by decide +kernel)⟩
theorem lw_p17 : lw_okq (⟨"AreaRouters$Base", "linkOf", "(II)I"⟩, 10) := ⟨⟨by decide +kernel, by decide +kernel⟩, List.mem_of_getElem? (i := 54) (by decide +kernel), List.mem_of_getElem? (i := 261) (by decide +kernel), List.mem_of_getElem? (i := 262) (by decide +kernel)⟩
theorem lw_p18 : lw_okq (⟨"AreaRouters$Base", "marksOf", "(I)I"⟩, 10) := ⟨⟨by decide +kernel, by decide +kernel⟩, List.mem_of_getElem? (i := 54) (by decide +kernel), List.mem_of_getElem? (i := 269) (by decide +kernel), List.mem_of_getElem? (i := 270) (by decide +kernel)⟩
theorem lw_p19 : lw_okq (⟨"AreaRouters", "wayFrom", "(II)I"⟩, 7) := ⟨⟨by decide +kernel, by decide +kernel⟩, List.mem_of_getElem? (i := 16) (by decide +kernel), List.mem_of_getElem? (i := 277) (by decide +kernel), List.mem_of_getElem? (i := 278) (by decide +kernel)⟩
theorem lw_p20 : lw_okq (⟨"AreaRouters$Ways", "find", "(LAreaRouters$Base;I)V"⟩, 3) := ⟨⟨by decide +kernel, by decide +kernel⟩, List.mem_of_getElem? (i := 118) (by decide +kernel), List.mem_of_getElem? (i := 284) (by decide +kernel), List.mem_of_getElem? (i := 285) (by decide +kernel)⟩
theorem lw_p21 : lw_okq (⟨"AreaRouters$Ways", "nextToSettle", "()I"⟩, 3) := ⟨⟨by decide +kernel, by decide +kernel⟩, List.mem_of_getElem? (i := 118) (by decide +kernel), List.mem_of_getElem? (i := 289) (by decide +kernel), List.mem_of_getElem? (i := 290) (by decide +kernel)⟩
theorem lw_p22 : lw_okq (⟨"AreaRouters$Ways", "followLinks", "(LAreaRouters$Base;I)V"⟩, 3) := ⟨⟨by decide +kernel, by decide +kernel⟩, List.mem_of_getElem? (i := 118) (by decide +kernel), List.mem_of_getElem? (i := 296) (by decide +kernel), List.mem_of_getElem? (i := 297) (by decide +kernel)⟩
theorem lw_p23 : lw_okq (⟨"AreaRouters$Base", "hasLink", "(II)Z"⟩, 10) := ⟨⟨by decide +kernel, by decide +kernel⟩, List.mem_of_getElem? (i := 54) (by decide +kernel), List.mem_of_getElem? (i := 303) (by decide +kernel), List.mem_of_getElem? (i := 304) (by decide +kernel)⟩
theorem lw_p24 : lw_okq (⟨"AreaRouters$Ways", "reach", "(III)V"⟩, 3) := ⟨⟨by decide +kernel, by decide +kernel⟩, List.mem_of_getElem? (i := 118) (by decide +kernel), List.mem_of_getElem? (i := 307) (by decide +kernel), List.mem_of_getElem? (i := 308) (by decide +kernel)⟩
theorem lw_p25 : lw_okq (⟨"AreaRouters$Ways", "wayTo", "(I)I"⟩, 3) := ⟨⟨by decide +kernel, by decide +kernel⟩, List.mem_of_getElem? (i := 118) (by decide +kernel), List.mem_of_getElem? (i := 314) (by decide +kernel), List.mem_of_getElem? (i := 315) (by decide +kernel)⟩
theorem lw_p26 : lw_okq (⟨"AreaRouters", "wayToArea", "(II)I"⟩, 7) := ⟨⟨by decide +kernel, by decide +kernel⟩, List.mem_of_getElem? (i := 16) (by decide +kernel), List.mem_of_getElem? (i := 320) (by decide +kernel), List.mem_of_getElem? (i := 321) (by decide +kernel)⟩
theorem lw_p27 : lw_okq (⟨"AreaRouters$Ways", "nearer", "(II)I"⟩, 3) := ⟨⟨by decide +kernel, by decide +kernel⟩, List.mem_of_getElem? (i := 118) (by decide +kernel), List.mem_of_getElem? (i := 324) (by decide +kernel), List.mem_of_getElem? (i := 325) (by decide +kernel)⟩
theorem lw_p28 : lw_okq (⟨"AreaRouters", "wayToExit", "(I)I"⟩, 7) := ⟨⟨by decide +kernel, by decide +kernel⟩, List.mem_of_getElem? (i := 16) (by decide +kernel), List.mem_of_getElem? (i := 328) (by decide +kernel), List.mem_of_getElem? (i := 329) (by decide +kernel)⟩
theorem lw_p29 : lw_okq (⟨"AreaRouters", "checkSender", "(II)V"⟩, 7) := ⟨⟨by decide +kernel, by decide +kernel⟩, List.mem_of_getElem? (i := 16) (by decide +kernel), List.mem_of_getElem? (i := 345) (by decide +kernel), List.mem_of_getElem? (i := 346) (by decide +kernel)⟩
theorem lw_p30 : lw_okq (⟨"java/lang/Throwable", "fillInStackTrace", "(I)Ljava/lang/Throwable;"⟩, 6) := ⟨⟨by decide +kernel, by decide +kernel⟩, List.mem_of_getElem? (i := 387) (by decide +kernel), List.mem_of_getElem? (i := 385) (by decide +kernel), List.mem_of_getElem? (i := 386) (by decide +kernel)⟩
theorem lw_p31 : lw_okq (⟨"AreaRouters", "noteHello", "(III)V"⟩, 7) := ⟨⟨by decide +kernel, by decide +kernel⟩, List.mem_of_getElem? (i := 16) (by decide +kernel), List.mem_of_getElem? (i := 436) (by decide +kernel), List.mem_of_getElem? (i := 437) (by decide +kernel)⟩
def lw_privs_2 : List (MethodName × Nat) := [(⟨"AreaRouters$Base", "tell", "(II)I"⟩, 10), (⟨"AreaRouters$Base", "linkOf", "(II)I"⟩, 10), (⟨"AreaRouters$Base", "marksOf", "(I)I"⟩, 10), (⟨"AreaRouters", "wayFrom", "(II)I"⟩, 7), (⟨"AreaRouters$Ways", "find", "(LAreaRouters$Base;I)V"⟩, 3), (⟨"AreaRouters$Ways", "nextToSettle", "()I"⟩, 3), (⟨"AreaRouters$Ways", "followLinks", "(LAreaRouters$Base;I)V"⟩, 3), (⟨"AreaRouters$Base", "hasLink", "(II)Z"⟩, 10), (⟨"AreaRouters$Ways", "reach", "(III)V"⟩, 3), (⟨"AreaRouters$Ways", "wayTo", "(I)I"⟩, 3), (⟨"AreaRouters", "wayToArea", "(II)I"⟩, 7), (⟨"AreaRouters$Ways", "nearer", "(II)I"⟩, 3), (⟨"AreaRouters", "wayToExit", "(I)I"⟩, 7), (⟨"AreaRouters", "checkSender", "(II)V"⟩, 7), (⟨"java/lang/Throwable", "fillInStackTrace", "(I)Ljava/lang/Throwable;"⟩, 6), (⟨"AreaRouters", "noteHello", "(III)V"⟩, 7)]
theorem lw_r2 : ∀ q ∈ lw_privs_2, lw_okq q := List.forall_mem_cons.mpr ⟨lw_p16, List.forall_mem_cons.mpr ⟨lw_p17, List.forall_mem_cons.mpr ⟨lw_p18, List.forall_mem_cons.mpr ⟨lw_p19, List.forall_mem_cons.mpr ⟨lw_p20, List.forall_mem_cons.mpr ⟨lw_p21, List.forall_mem_cons.mpr ⟨lw_p22, List.forall_mem_cons.mpr ⟨lw_p23, List.forall_mem_cons.mpr ⟨lw_p24, List.forall_mem_cons.mpr ⟨lw_p25, List.forall_mem_cons.mpr ⟨lw_p26, List.forall_mem_cons.mpr ⟨lw_p27, List.forall_mem_cons.mpr ⟨lw_p28, List.forall_mem_cons.mpr ⟨lw_p29, List.forall_mem_cons.mpr ⟨lw_p30, List.forall_mem_cons.mpr ⟨lw_p31, fun _ h => absurd h List.not_mem_nil⟩⟩⟩⟩⟩⟩⟩⟩⟩⟩⟩⟩⟩⟩⟩⟩
theorem lw_p32 : lw_okq (⟨"AreaRouters$Hearing", "isHeard", "(III)Z"⟩, 2) := ⟨⟨by decide +kernel, by decide +kernel⟩, List.mem_of_getElem? (i := 39) (by decide +kernel), List.mem_of_getElem? (i := 440) (by decide +kernel), List.mem_of_getElem? (i := 441) (by decide +kernel)⟩
theorem lw_p33 : lw_okq (⟨"AreaRouters$Hearing", "note", "(IIIZ)V"⟩, 2) := ⟨⟨by decide +kernel, by decide +kernel⟩, List.mem_of_getElem? (i := 39) (by decide +kernel), List.mem_of_getElem? (i := 444) (by decide +kernel), List.mem_of_getElem? (i := 445) (by decide +kernel)⟩
theorem lw_p34 : lw_okq (⟨"AreaRouters", "checkLevel", "(II)V"⟩, 7) := ⟨⟨by decide +kernel, by decide +kernel⟩, List.mem_of_getElem? (i := 16) (by decide +kernel), List.mem_of_getElem? (i := 456) (by decide +kernel), List.mem_of_getElem? (i := 457) (by decide +kernel)⟩
theorem lw_p35 : lw_okq (⟨"AreaRouters$Base", "isDue", "(II)Z"⟩, 10) := ⟨⟨by decide +kernel, by decide +kernel⟩, List.mem_of_getElem? (i := 54) (by decide +kernel), List.mem_of_getElem? (i := 476) (by decide +kernel), List.mem_of_getElem? (i := 477) (by decide +kernel)⟩
theorem lw_p36 : lw_okq (⟨"AreaRouters", "isReached", "(IIIII)Z"⟩, 7) := ⟨⟨by decide +kernel, by decide +kernel⟩, List.mem_of_getElem? (i := 16) (by decide +kernel), List.mem_of_getElem? (i := 480) (by decide +kernel), List.mem_of_getElem? (i := 481) (by decide +kernel)⟩
theorem lw_p37 : lw_okq (⟨"AreaRouters", "receive", "(IIILAreaRouters$Base;I)V"⟩, 7) := ⟨⟨by decide +kernel, by decide +kernel⟩, List.mem_of_getElem? (i := 16) (by decide +kernel), List.mem_of_getElem? (i := 484) (by decide +kernel), List.mem_of_getElem? (i := 485) (by decide +kernel)⟩
theorem lw_p38 : lw_okq (⟨"AreaRouters$Base", "orderAgainst", "(LAreaRouters$Base;I)I"⟩, 10) := ⟨⟨by decide +kernel, by decide +kernel⟩, List.mem_of_getElem? (i := 54) (by decide +kernel), List.mem_of_getElem? (i := 488) (by decide +kernel), List.mem_of_getElem? (i := 489) (by decide +kernel)⟩
theorem lw_p39 : lw_okq (⟨"AreaRouters$Base", "setDue", "(IIZ)V"⟩, 10) := ⟨⟨by decide +kernel, by decide +kernel⟩, List.mem_of_getElem? (i := 54) (by decide +kernel), List.mem_of_getElem? (i := 492) (by decide +kernel), List.mem_of_getElem? (i := 493) (by decide +kernel)⟩
theorem lw_p40 : lw_okq (⟨"AreaRouters$Base", "setAsked", "(IIZ)V"⟩, 10) := ⟨⟨by decide +kernel, by decide +kernel⟩, List.mem_of_getElem? (i := 54) (by decide +kernel), List.mem_of_getElem? (i := 496) (by decide +kernel), List.mem_of_getElem? (i := 497) (by decide +kernel)⟩
theorem lw_p41 : lw_okq (⟨"AreaRouters$Base", "copyFrom", "(LAreaRouters$Base;I)V"⟩, 10) := ⟨⟨by decide +kernel, by decide +kernel⟩, List.mem_of_getElem? (i := 54) (by decide +kernel), List.mem_of_getElem? (i := 500) (by decide +kernel), List.mem_of_getElem? (i := 501) (by decide +kernel)⟩
theorem lw_p42 : lw_okq (⟨"AreaRouters$Base", "takeLinks", "(I[III)V"⟩, 10) := ⟨⟨by decide +kernel, by decide +kernel⟩, List.mem_of_getElem? (i := 54) (by decide +kernel), List.mem_of_getElem? (i := 507) (by decide +kernel), List.mem_of_getElem? (i := 508) (by decide +kernel)⟩
theorem lw_p43 : lw_okq (⟨"AreaRouters", "answerForOwn", "(III)V"⟩, 7) := ⟨⟨by decide +kernel, by decide +kernel⟩, List.mem_of_getElem? (i := 16) (by decide +kernel), List.mem_of_getElem? (i := 513) (by decide +kernel), List.mem_of_getElem? (i := 514) (by decide +kernel)⟩
theorem lw_p44 : lw_okq (⟨"AreaRouters", "draftPart", "(III)Z"⟩, 7) := ⟨⟨by decide +kernel, by decide +kernel⟩, List.mem_of_getElem? (i := 16) (by decide +kernel), List.mem_of_getElem? (i := 518) (by decide +kernel), List.mem_of_getElem? (i := 519) (by decide +kernel)⟩
theorem lw_p45 : lw_okq (⟨"AreaRouters$Draft", "begin", "(I)V"⟩, 4) := ⟨⟨by decide +kernel, by decide +kernel⟩, List.mem_of_getElem? (i := 94) (by decide +kernel), List.mem_of_getElem? (i := 522) (by decide +kernel), List.mem_of_getElem? (i := 523) (by decide +kernel)⟩
theorem lw_p46 : lw_okq (⟨"AreaRouters", "draftItself", "(II)V"⟩, 7) := ⟨⟨by decide +kernel, by decide +kernel⟩, List.mem_of_getElem? (i := 16) (by decide +kernel), List.mem_of_getElem? (i := 526) (by decide +kernel), List.mem_of_getElem? (i := 527) (by decide +kernel)⟩
theorem lw_p47 : lw_okq (⟨"AreaRouters", "hasLevelTwoNeighbourElsewhere", "(I)Z"⟩, 7) := ⟨⟨by decide +kernel, by decide +kernel⟩, List.mem_of_getElem? (i := 16) (by decide +kernel), List.mem_of_getElem? (i := 530) (by decide +kernel), List.mem_of_getElem? (i := 531) (by decide +kernel)⟩
def lw_privs_3 : List (MethodName × Nat) := [(⟨"AreaRouters$Hearing", "isHeard", "(III)Z"⟩, 2), (⟨"AreaRouters$Hearing", "note", "(IIIZ)V"⟩, 2), (⟨"AreaRouters", "checkLevel", "(II)V"⟩, 7), (⟨"AreaRouters$Base", "isDue", "(II)Z"⟩, 10), (⟨"AreaRouters", "isReached", "(IIIII)Z"⟩, 7), (⟨"AreaRouters", "receive", "(IIILAreaRouters$Base;I)V"⟩, 7), (⟨"AreaRouters$Base", "orderAgainst", "(LAreaRouters$Base;I)I"⟩, 10), (⟨"AreaRouters$Base", "setDue", "(IIZ)V"⟩, 10), (⟨"AreaRouters$Base", "setAsked", "(IIZ)V"⟩, 10), (⟨"AreaRouters$Base", "copyFrom", "(LAreaRouters$Base;I)V"⟩, 10), (⟨"AreaRouters$Base", "takeLinks", "(I[III)V"⟩, 10), (⟨"AreaRouters", "answerForOwn", "(III)V"⟩, 7), (⟨"AreaRouters", "draftPart", "(III)Z"⟩, 7), (⟨"AreaRouters$Draft", "begin", "(I)V"⟩, 4), (⟨"AreaRouters", "draftItself", "(II)V"⟩, 7), (⟨"AreaRouters", "hasLevelTwoNeighbourElsewhere", "(I)Z"⟩, 7)]
theorem lw_r3 : ∀ q ∈ lw_privs_3, lw_okq q := List.forall_mem_cons.mpr ⟨lw_p32, List.forall_mem_cons.mpr ⟨lw_p33, List.forall_mem_cons.mpr ⟨lw_p34, List.forall_mem_cons.mpr ⟨lw_p35, List.forall_mem_cons.mpr ⟨lw_p36, List.forall_mem_cons.mpr ⟨lw_p37, List.forall_mem_cons.mpr ⟨lw_p38, List.forall_mem_cons.mpr ⟨lw_p39, List.forall_mem_cons.mpr ⟨lw_p40, List.forall_mem_cons.mpr ⟨lw_p41, List.forall_mem_cons.mpr ⟨lw_p42, List.forall_mem_cons.mpr ⟨lw_p43, List.forall_mem_cons.mpr ⟨lw_p44, List.forall_mem_cons.mpr ⟨lw_p45, List.forall_mem_cons.mpr ⟨lw_p46, List.forall_mem_cons.mpr ⟨lw_p47, fun _ h => absurd h List.not_mem_nil⟩⟩⟩⟩⟩⟩⟩⟩⟩⟩⟩⟩⟩⟩⟩⟩
theorem lw_p48 : lw_okq (⟨"AreaRouters$Hearing", "firstMutual", "(II)I"⟩, 2) := ⟨⟨by decide +kernel, by decide +kernel⟩, List.mem_of_getElem? (i := 39) (by decide +kernel), List.mem_of_getElem? (i := 534) (by decide +kernel), List.mem_of_getElem? (i := 535) (by decide +kernel)⟩
theorem lw_p49 : lw_okq (⟨"AreaRouters$Wiring", "isShared", "(I)Z"⟩, 2) := ⟨⟨by decide +kernel, by decide +kernel⟩, List.mem_of_getElem? (i := 24) (by decide +kernel), List.mem_of_getElem? (i := 539) (by decide +kernel), List.mem_of_getElem? (i := 540) (by decide +kernel)⟩
theorem lw_p50 : lw_okq (⟨"AreaRouters$Wiring", "metricOf", "(II)I"⟩, 2) := ⟨⟨by decide +kernel, by decide +kernel⟩, List.mem_of_getElem? (i := 24) (by decide +kernel), List.mem_of_getElem? (i := 544) (by decide +kernel), List.mem_of_getElem? (i := 545) (by decide +kernel)⟩
theorem lw_p51 : lw_okq (⟨"AreaRouters$Draft", "addLink", "(II)V"⟩, 4) := ⟨⟨by decide +kernel, by decide +kernel⟩, List.mem_of_getElem? (i := 94) (by decide +kernel), List.mem_of_getElem? (i := 548) (by decide +kernel), List.mem_of_getElem? (i := 549) (by decide +kernel)⟩
theorem lw_p52 : lw_okq (⟨"AreaRouters", "draftCircuit", "(III)Z"⟩, 7) := ⟨⟨by decide +kernel, by decide +kernel⟩, List.mem_of_getElem? (i := 16) (by decide +kernel), List.mem_of_getElem? (i := 552) (by decide +kernel), List.mem_of_getElem? (i := 553) (by decide +kernel)⟩
theorem lw_p53 : lw_okq (⟨"AreaRouters$Base", "renew", "(ILAreaRouters$Draft;I)V"⟩, 10) := ⟨⟨by decide +kernel, by decide +kernel⟩, List.mem_of_getElem? (i := 54) (by decide +kernel), List.mem_of_getElem? (i := 556) (by decide +kernel), List.mem_of_getElem? (i := 557) (by decide +kernel)⟩
theorem lw_p54 : lw_okq (⟨"AreaRouters$Base", "askNowhere", "(I)V"⟩, 10) := ⟨⟨by decide +kernel, by decide +kernel⟩, List.mem_of_getElem? (i := 54) (by decide +kernel), List.mem_of_getElem? (i := 561) (by decide +kernel), List.mem_of_getElem? (i := 562) (by decide +kernel)⟩
theorem lw_p55 : lw_okq (⟨"AreaRouters$Base", "setDueOn", "(II)V"⟩, 10) := ⟨⟨by decide +kernel, by decide +kernel⟩, List.mem_of_getElem? (i := 54) (by decide +kernel), List.mem_of_getElem? (i := 565) (by decide +kernel), List.mem_of_getElem? (i := 566) (by decide +kernel)⟩
theorem lw_p56 : lw_okq (⟨"AreaRouters$Base", "compareWithSummary", "(LAreaRouters$Base;I)V"⟩, 10) := ⟨⟨by decide +kernel, by decide +kernel⟩, List.mem_of_getElem? (i := 54) (by decide +kernel), List.mem_of_getElem? (i := 576) (by decide +kernel), List.mem_of_getElem? (i := 577) (by decide +kernel)⟩
theorem lw_p57 : lw_okq (⟨"AreaRouters$Base", "compareWithTold", "(LAreaRouters$Base;II)V"⟩, 10) := ⟨⟨by decide +kernel, by decide +kernel⟩, List.mem_of_getElem? (i := 54) (by decide +kernel), List.mem_of_getElem? (i := 580) (by decide +kernel), List.mem_of_getElem? (i := 581) (by decide +kernel)⟩
theorem lw_p58 : lw_okq (⟨"AreaRouters$Base", "count", "()I"⟩, 10) := ⟨⟨by decide +kernel, by decide +kernel⟩, List.mem_of_getElem? (i := 54) (by decide +kernel), List.mem_of_getElem? (i := 587) (by decide +kernel), List.mem_of_getElem? (i := 588) (by decide +kernel)⟩
theorem lw_p59 : lw_okq (⟨"AreaRouters$Base", "isAsked", "(II)Z"⟩, 10) := ⟨⟨by decide +kernel, by decide +kernel⟩, List.mem_of_getElem? (i := 54) (by decide +kernel), List.mem_of_getElem? (i := 598) (by decide +kernel), List.mem_of_getElem? (i := 599) (by decide +kernel)⟩
theorem lw_p60 : lw_okq (⟨"AreaRouters", "bringUpToDate", "(III)Z"⟩, 7) := ⟨⟨by decide +kernel, by decide +kernel⟩, List.mem_of_getElem? (i := 16) (by decide +kernel), List.mem_of_getElem? (i := 611) (by decide +kernel), List.mem_of_getElem? (i := 612) (by decide +kernel)⟩
theorem lw_p61 : lw_okq (⟨"AreaRouters$Base", "isStillTrue", "(ILAreaRouters$Draft;)Z"⟩, 10) := ⟨⟨by decide +kernel, by decide +kernel⟩, List.mem_of_getElem? (i := 54) (by decide +kernel), List.mem_of_getElem? (i := 615) (by decide +kernel), List.mem_of_getElem? (i := 616) (by decide +kernel)⟩
theorem lw_p62 : lw_okq (⟨"AreaRoutersModel", "barred", "(II)I"⟩, 22) := ⟨⟨by decide +kernel, by decide +kernel⟩, List.mem_of_getElem? (i := 619) (by decide +kernel), List.mem_of_getElem? (i := 696) (by decide +kernel), List.mem_of_getElem? (i := 697) (by decide +kernel)⟩
theorem lw_p63 : lw_okq (⟨"AreaRoutersModel", "isOn", "(II)Z"⟩, 22) := ⟨⟨by decide +kernel, by decide +kernel⟩, List.mem_of_getElem? (i := 619) (by decide +kernel), List.mem_of_getElem? (i := 703) (by decide +kernel), List.mem_of_getElem? (i := 704) (by decide +kernel)⟩
def lw_privs_4 : List (MethodName × Nat) := [(⟨"AreaRouters$Hearing", "firstMutual", "(II)I"⟩, 2), (⟨"AreaRouters$Wiring", "isShared", "(I)Z"⟩, 2), (⟨"AreaRouters$Wiring", "metricOf", "(II)I"⟩, 2), (⟨"AreaRouters$Draft", "addLink", "(II)V"⟩, 4), (⟨"AreaRouters", "draftCircuit", "(III)Z"⟩, 7), (⟨"AreaRouters$Base", "renew", "(ILAreaRouters$Draft;I)V"⟩, 10), (⟨"AreaRouters$Base", "askNowhere", "(I)V"⟩, 10), (⟨"AreaRouters$Base", "setDueOn", "(II)V"⟩, 10), (⟨"AreaRouters$Base", "compareWithSummary", "(LAreaRouters$Base;I)V"⟩, 10), (⟨"AreaRouters$Base", "compareWithTold", "(LAreaRouters$Base;II)V"⟩, 10), (⟨"AreaRouters$Base", "count", "()I"⟩, 10), (⟨"AreaRouters$Base", "isAsked", "(II)Z"⟩, 10), (⟨"AreaRouters", "bringUpToDate", "(III)Z"⟩, 7), (⟨"AreaRouters$Base", "isStillTrue", "(ILAreaRouters$Draft;)Z"⟩, 10), (⟨"AreaRoutersModel", "barred", "(II)I"⟩, 22), (⟨"AreaRoutersModel", "isOn", "(II)Z"⟩, 22)]
theorem lw_r4 : ∀ q ∈ lw_privs_4, lw_okq q := List.forall_mem_cons.mpr ⟨lw_p48, List.forall_mem_cons.mpr ⟨lw_p49, List.forall_mem_cons.mpr ⟨lw_p50, List.forall_mem_cons.mpr ⟨lw_p51, List.forall_mem_cons.mpr ⟨lw_p52, List.forall_mem_cons.mpr ⟨lw_p53, List.forall_mem_cons.mpr ⟨lw_p54, List.forall_mem_cons.mpr ⟨lw_p55, List.forall_mem_cons.mpr ⟨lw_p56, List.forall_mem_cons.mpr ⟨lw_p57, List.forall_mem_cons.mpr ⟨lw_p58, List.forall_mem_cons.mpr ⟨lw_p59, List.forall_mem_cons.mpr ⟨lw_p60, List.forall_mem_cons.mpr ⟨lw_p61, List.forall_mem_cons.mpr ⟨lw_p62, List.forall_mem_cons.mpr ⟨lw_p63, fun _ h => absurd h List.not_mem_nil⟩⟩⟩⟩⟩⟩⟩⟩⟩⟩⟩⟩⟩⟩⟩⟩
theorem lw_p64 : lw_okq (⟨"AreaRoutersModel", "raise", "(I)I"⟩, 22) := ⟨⟨by decide +kernel, by decide +kernel⟩, List.mem_of_getElem? (i := 619) (by decide +kernel), List.mem_of_getElem? (i := 707) (by decide +kernel), List.mem_of_getElem? (i := 708) (by decide +kernel)⟩
theorem lw_p65 : lw_okq (⟨"AreaRoutersModel", "receives", "(IIII)Z"⟩, 22) := ⟨⟨by decide +kernel, by decide +kernel⟩, List.mem_of_getElem? (i := 619) (by decide +kernel), List.mem_of_getElem? (i := 711) (by decide +kernel), List.mem_of_getElem? (i := 712) (by decide +kernel)⟩
theorem lw_p66 : lw_okq (⟨"AreaRoutersModel", "has", "(II)Z"⟩, 22) := ⟨⟨by decide +kernel, by decide +kernel⟩, List.mem_of_getElem? (i := 619) (by decide +kernel), List.mem_of_getElem? (i := 715) (by decide +kernel), List.mem_of_getElem? (i := 716) (by decide +kernel)⟩
theorem lw_p67 : lw_okq (⟨"AreaRoutersModel", "part", "(III)Z"⟩, 22) := ⟨⟨by decide +kernel, by decide +kernel⟩, List.mem_of_getElem? (i := 619) (by decide +kernel), List.mem_of_getElem? (i := 726) (by decide +kernel), List.mem_of_getElem? (i := 727) (by decide +kernel)⟩
theorem lw_p68 : lw_okq (⟨"AreaRoutersModel", "describes", "(III)Z"⟩, 22) := ⟨⟨by decide +kernel, by decide +kernel⟩, List.mem_of_getElem? (i := 619) (by decide +kernel), List.mem_of_getElem? (i := 733) (by decide +kernel), List.mem_of_getElem? (i := 734) (by decide +kernel)⟩
theorem lw_p69 : lw_okq (⟨"AreaRoutersModel", "isShared", "(I)Z"⟩, 22) := ⟨⟨by decide +kernel, by decide +kernel⟩, List.mem_of_getElem? (i := 619) (by decide +kernel), List.mem_of_getElem? (i := 737) (by decide +kernel), List.mem_of_getElem? (i := 738) (by decide +kernel)⟩
theorem lw_p70 : lw_okq (⟨"AreaRoutersModel", "attached", "(I)I"⟩, 22) := ⟨⟨by decide +kernel, by decide +kernel⟩, List.mem_of_getElem? (i := 619) (by decide +kernel), List.mem_of_getElem? (i := 741) (by decide +kernel), List.mem_of_getElem? (i := 742) (by decide +kernel)⟩
theorem lw_p71 : lw_okq (⟨"AreaRoutersModel", "anyNear", "(III)Z"⟩, 22) := ⟨⟨by decide +kernel, by decide +kernel⟩, List.mem_of_getElem? (i := 619) (by decide +kernel), List.mem_of_getElem? (i := 745) (by decide +kernel), List.mem_of_getElem? (i := 746) (by decide +kernel)⟩
theorem lw_p72 : lw_okq (⟨"AreaRoutersModel", "near", "(IIII)Z"⟩, 22) := ⟨⟨by decide +kernel, by decide +kernel⟩, List.mem_of_getElem? (i := 619) (by decide +kernel), List.mem_of_getElem? (i := 749) (by decide +kernel), List.mem_of_getElem? (i := 750) (by decide +kernel)⟩
theorem lw_p73 : lw_okq (⟨"AreaRoutersModel", "speakerOf", "(III)I"⟩, 22) := ⟨⟨by decide +kernel, by decide +kernel⟩, List.mem_of_getElem? (i := 619) (by decide +kernel), List.mem_of_getElem? (i := 753) (by decide +kernel), List.mem_of_getElem? (i := 754) (by decide +kernel)⟩
theorem lw_p74 : lw_okq (⟨"AreaRoutersModel", "put", "(II)V"⟩, 22) := ⟨⟨by decide +kernel, by decide +kernel⟩, List.mem_of_getElem? (i := 619) (by decide +kernel), List.mem_of_getElem? (i := 757) (by decide +kernel), List.mem_of_getElem? (i := 758) (by decide +kernel)⟩
theorem lw_p75 : lw_okq (⟨"AreaRoutersModel", "ownLink", "(III)V"⟩, 22) := ⟨⟨by decide +kernel, by decide +kernel⟩, List.mem_of_getElem? (i := 619) (by decide +kernel), List.mem_of_getElem? (i := 761) (by decide +kernel), List.mem_of_getElem? (i := 762) (by decide +kernel)⟩
theorem lw_p76 : lw_okq (⟨"AreaRoutersModel", "sameLinks", "(I)Z"⟩, 22) := ⟨⟨by decide +kernel, by decide +kernel⟩, List.mem_of_getElem? (i := 619) (by decide +kernel), List.mem_of_getElem? (i := 765) (by decide +kernel), List.mem_of_getElem? (i := 766) (by decide +kernel)⟩
theorem lw_p77 : lw_okq (⟨"AreaRoutersModel", "exits", "(III)Z"⟩, 22) := ⟨⟨by decide +kernel, by decide +kernel⟩, List.mem_of_getElem? (i := 619) (by decide +kernel), List.mem_of_getElem? (i := 769) (by decide +kernel), List.mem_of_getElem? (i := 770) (by decide +kernel)⟩
theorem lw_p78 : lw_okq (⟨"AreaRoutersModel", "leavesArea", "(I)Z"⟩, 22) := ⟨⟨by decide +kernel, by decide +kernel⟩, List.mem_of_getElem? (i := 619) (by decide +kernel), List.mem_of_getElem? (i := 773) (by decide +kernel), List.mem_of_getElem? (i := 774) (by decide +kernel)⟩
theorem lw_p79 : lw_okq (⟨"AreaRoutersModel", "renew", "(III)V"⟩, 22) := ⟨⟨by decide +kernel, by decide +kernel⟩, List.mem_of_getElem? (i := 619) (by decide +kernel), List.mem_of_getElem? (i := 777) (by decide +kernel), List.mem_of_getElem? (i := 778) (by decide +kernel)⟩
def lw_privs_5 : List (MethodName × Nat) := [(⟨"AreaRoutersModel", "raise", "(I)I"⟩, 22), (⟨"AreaRoutersModel", "receives", "(IIII)Z"⟩, 22), (⟨"AreaRoutersModel", "has", "(II)Z"⟩, 22), (⟨"AreaRoutersModel", "part", "(III)Z"⟩, 22), (⟨"AreaRoutersModel", "describes", "(III)Z"⟩, 22), (⟨"AreaRoutersModel", "isShared", "(I)Z"⟩, 22), (⟨"AreaRoutersModel", "attached", "(I)I"⟩, 22), (⟨"AreaRoutersModel", "anyNear", "(III)Z"⟩, 22), (⟨"AreaRoutersModel", "near", "(IIII)Z"⟩, 22), (⟨"AreaRoutersModel", "speakerOf", "(III)I"⟩, 22), (⟨"AreaRoutersModel", "put", "(II)V"⟩, 22), (⟨"AreaRoutersModel", "ownLink", "(III)V"⟩, 22), (⟨"AreaRoutersModel", "sameLinks", "(I)Z"⟩, 22), (⟨"AreaRoutersModel", "exits", "(III)Z"⟩, 22), (⟨"AreaRoutersModel", "leavesArea", "(I)Z"⟩, 22), (⟨"AreaRoutersModel", "renew", "(III)V"⟩, 22)]
theorem lw_r5 : ∀ q ∈ lw_privs_5, lw_okq q := List.forall_mem_cons.mpr ⟨lw_p64, List.forall_mem_cons.mpr ⟨lw_p65, List.forall_mem_cons.mpr ⟨lw_p66, List.forall_mem_cons.mpr ⟨lw_p67, List.forall_mem_cons.mpr ⟨lw_p68, List.forall_mem_cons.mpr ⟨lw_p69, List.forall_mem_cons.mpr ⟨lw_p70, List.forall_mem_cons.mpr ⟨lw_p71, List.forall_mem_cons.mpr ⟨lw_p72, List.forall_mem_cons.mpr ⟨lw_p73, List.forall_mem_cons.mpr ⟨lw_p74, List.forall_mem_cons.mpr ⟨lw_p75, List.forall_mem_cons.mpr ⟨lw_p76, List.forall_mem_cons.mpr ⟨lw_p77, List.forall_mem_cons.mpr ⟨lw_p78, List.forall_mem_cons.mpr ⟨lw_p79, fun _ h => absurd h List.not_mem_nil⟩⟩⟩⟩⟩⟩⟩⟩⟩⟩⟩⟩⟩⟩⟩⟩
theorem lw_p80 : lw_okq (⟨"AreaRoutersModel", "circuits", "(I)I"⟩, 22) := ⟨⟨by decide +kernel, by decide +kernel⟩, List.mem_of_getElem? (i := 619) (by decide +kernel), List.mem_of_getElem? (i := 781) (by decide +kernel), List.mem_of_getElem? (i := 782) (by decide +kernel)⟩
theorem lw_p81 : lw_okq (⟨"AreaRoutersModel", "die", "(II)V"⟩, 22) := ⟨⟨by decide +kernel, by decide +kernel⟩, List.mem_of_getElem? (i := 619) (by decide +kernel), List.mem_of_getElem? (i := 785) (by decide +kernel), List.mem_of_getElem? (i := 786) (by decide +kernel)⟩
theorem lw_p82 : lw_okq (⟨"AreaRoutersModel", "barredAt", "(III)I"⟩, 22) := ⟨⟨by decide +kernel, by decide +kernel⟩, List.mem_of_getElem? (i := 619) (by decide +kernel), List.mem_of_getElem? (i := 793) (by decide +kernel), List.mem_of_getElem? (i := 794) (by decide +kernel)⟩
theorem lw_p83 : lw_okq (⟨"AreaRoutersModel", "take", "(IIIII)V"⟩, 22) := ⟨⟨by decide +kernel, by decide +kernel⟩, List.mem_of_getElem? (i := 619) (by decide +kernel), List.mem_of_getElem? (i := 797) (by decide +kernel), List.mem_of_getElem? (i := 798) (by decide +kernel)⟩
theorem lw_p84 : lw_okq (⟨"AreaRoutersModel", "copy", "(II)V"⟩, 22) := ⟨⟨by decide +kernel, by decide +kernel⟩, List.mem_of_getElem? (i := 619) (by decide +kernel), List.mem_of_getElem? (i := 804) (by decide +kernel), List.mem_of_getElem? (i := 805) (by decide +kernel)⟩
theorem lw_p85 : lw_okq (⟨"AreaRoutersModel", "own", "(III)V"⟩, 22) := ⟨⟨by decide +kernel, by decide +kernel⟩, List.mem_of_getElem? (i := 619) (by decide +kernel), List.mem_of_getElem? (i := 808) (by decide +kernel), List.mem_of_getElem? (i := 809) (by decide +kernel)⟩
theorem lw_p86 : lw_okq (⟨"AreaRoutersModel", "told", "(IIIII)V"⟩, 22) := ⟨⟨by decide +kernel, by decide +kernel⟩, List.mem_of_getElem? (i := 619) (by decide +kernel), List.mem_of_getElem? (i := 816) (by decide +kernel), List.mem_of_getElem? (i := 817) (by decide +kernel)⟩
theorem lw_p87 : lw_okq (⟨"AreaRoutersModel", "routeOf", "(II)I"⟩, 22) := ⟨⟨by decide +kernel, by decide +kernel⟩, List.mem_of_getElem? (i := 619) (by decide +kernel), List.mem_of_getElem? (i := 840) (by decide +kernel), List.mem_of_getElem? (i := 841) (by decide +kernel)⟩
theorem lw_p88 : lw_okq (⟨"AreaRoutersModel", "ways", "(II)V"⟩, 22) := ⟨⟨by decide +kernel, by decide +kernel⟩, List.mem_of_getElem? (i := 619) (by decide +kernel), List.mem_of_getElem? (i := 844) (by decide +kernel), List.mem_of_getElem? (i := 845) (by decide +kernel)⟩
theorem lw_p89 : lw_okq (⟨"AreaRoutersModel", "costs", "(II)V"⟩, 22) := ⟨⟨by decide +kernel, by decide +kernel⟩, List.mem_of_getElem? (i := 619) (by decide +kernel), List.mem_of_getElem? (i := 848) (by decide +kernel), List.mem_of_getElem? (i := 849) (by decide +kernel)⟩
theorem lw_p90 : lw_okq (⟨"AreaRoutersModel", "lives", "(III)Z"⟩, 22) := ⟨⟨by decide +kernel, by decide +kernel⟩, List.mem_of_getElem? (i := 619) (by decide +kernel), List.mem_of_getElem? (i := 852) (by decide +kernel), List.mem_of_getElem? (i := 853) (by decide +kernel)⟩
theorem lw_p91 : lw_okq (⟨"AreaRoutersModel", "linksTo", "(IIII)Z"⟩, 22) := ⟨⟨by decide +kernel, by decide +kernel⟩, List.mem_of_getElem? (i := 619) (by decide +kernel), List.mem_of_getElem? (i := 856) (by decide +kernel), List.mem_of_getElem? (i := 857) (by decide +kernel)⟩
theorem lw_p92 : lw_okq (⟨"AreaRoutersModel", "firstHops", "(II)V"⟩, 22) := ⟨⟨by decide +kernel, by decide +kernel⟩, List.mem_of_getElem? (i := 619) (by decide +kernel), List.mem_of_getElem? (i := 860) (by decide +kernel), List.mem_of_getElem? (i := 861) (by decide +kernel)⟩
theorem lw_p93 : lw_okq (⟨"AreaRoutersModel", "way", "(II)I"⟩, 22) := ⟨⟨by decide +kernel, by decide +kernel⟩, List.mem_of_getElem? (i := 619) (by decide +kernel), List.mem_of_getElem? (i := 867) (by decide +kernel), List.mem_of_getElem? (i := 868) (by decide +kernel)⟩
theorem lw_p94 : lw_okq (⟨"AreaRoutersModel", "nearest", "(III)I"⟩, 22) := ⟨⟨by decide +kernel, by decide +kernel⟩, List.mem_of_getElem? (i := 619) (by decide +kernel), List.mem_of_getElem? (i := 874) (by decide +kernel), List.mem_of_getElem? (i := 875) (by decide +kernel)⟩
def lw_privs_6 : List (MethodName × Nat) := [(⟨"AreaRoutersModel", "circuits", "(I)I"⟩, 22), (⟨"AreaRoutersModel", "die", "(II)V"⟩, 22), (⟨"AreaRoutersModel", "barredAt", "(III)I"⟩, 22), (⟨"AreaRoutersModel", "take", "(IIIII)V"⟩, 22), (⟨"AreaRoutersModel", "copy", "(II)V"⟩, 22), (⟨"AreaRoutersModel", "own", "(III)V"⟩, 22), (⟨"AreaRoutersModel", "told", "(IIIII)V"⟩, 22), (⟨"AreaRoutersModel", "routeOf", "(II)I"⟩, 22), (⟨"AreaRoutersModel", "ways", "(II)V"⟩, 22), (⟨"AreaRoutersModel", "costs", "(II)V"⟩, 22), (⟨"AreaRoutersModel", "lives", "(III)Z"⟩, 22), (⟨"AreaRoutersModel", "linksTo", "(IIII)Z"⟩, 22), (⟨"AreaRoutersModel", "firstHops", "(II)V"⟩, 22), (⟨"AreaRoutersModel", "way", "(II)I"⟩, 22), (⟨"AreaRoutersModel", "nearest", "(III)I"⟩, 22)]
theorem lw_r6 : ∀ q ∈ lw_privs_6, lw_okq q := List.forall_mem_cons.mpr ⟨lw_p80, List.forall_mem_cons.mpr ⟨lw_p81, List.forall_mem_cons.mpr ⟨lw_p82, List.forall_mem_cons.mpr ⟨lw_p83, List.forall_mem_cons.mpr ⟨lw_p84, List.forall_mem_cons.mpr ⟨lw_p85, List.forall_mem_cons.mpr ⟨lw_p86, List.forall_mem_cons.mpr ⟨lw_p87, List.forall_mem_cons.mpr ⟨lw_p88, List.forall_mem_cons.mpr ⟨lw_p89, List.forall_mem_cons.mpr ⟨lw_p90, List.forall_mem_cons.mpr ⟨lw_p91, List.forall_mem_cons.mpr ⟨lw_p92, List.forall_mem_cons.mpr ⟨lw_p93, List.forall_mem_cons.mpr ⟨lw_p94, fun _ h => absurd h List.not_mem_nil⟩⟩⟩⟩⟩⟩⟩⟩⟩⟩⟩⟩⟩⟩⟩
def lw_privs : List (MethodName × Nat) := lw_privs_1 ++ (lw_privs_2 ++ (lw_privs_3 ++ (lw_privs_4 ++ (lw_privs_5 ++ (lw_privs_6)))))
def lw_tbl : List Cond := k2_sels lw_privs ++ tables_1
theorem lw_privs_ok : ∀ q ∈ lw_privs, lw_okq q := by
  show ∀ q ∈ lw_privs_1 ++ (lw_privs_2 ++ (lw_privs_3 ++ (lw_privs_4 ++ (lw_privs_5 ++ (lw_privs_6))))), lw_okq q
  exact List.forall_mem_append.mpr ⟨lw_r1, List.forall_mem_append.mpr ⟨lw_r2, List.forall_mem_append.mpr ⟨lw_r3, List.forall_mem_append.mpr ⟨lw_r4, List.forall_mem_append.mpr ⟨lw_r5, lw_r6⟩⟩⟩⟩⟩
end
section
/-! MY OWN LAYER: memories as functions, one judgement for a walk, its rows. -/
abbrev jz_M : Type := Nat → Nat → Int32
abbrev jz_X : Type := Program × Launch × Env × Room × State × MethodId × Array Value × List Frame × Method × Code
abbrev jz_G : Type := va_G × List vw_C × List (ClassId × FieldType) × Nat × (Nat → Nat) × (Nat → (Nat → Int32) → va_E)
abbrev xz_p (X : jz_X) : Program := X.1
abbrev xz_l (X : jz_X) : Launch := X.2.1
abbrev xz_e (X : jz_X) : Env := X.2.2.1
abbrev xz_R (X : jz_X) : Room := X.2.2.2.1
abbrev xz_s (X : jz_X) : State := X.2.2.2.2.1
abbrev xz_m (X : jz_X) : MethodId := X.2.2.2.2.2.1
abbrev xz_a (X : jz_X) : Array Value := X.2.2.2.2.2.2.1
abbrev xz_b (X : jz_X) : List Frame := X.2.2.2.2.2.2.2.1
abbrev xz_t (X : jz_X) : Method := X.2.2.2.2.2.2.2.2.1
abbrev xz_c (X : jz_X) : Code := X.2.2.2.2.2.2.2.2.2
abbrev gz_D (G : jz_G) : va_G := G.1
abbrev gz_cl (G : jz_G) : List vw_C := G.2.1
abbrev gz_ty (G : jz_G) : List (ClassId × FieldType) := G.2.2.1
abbrev gz_N (G : jz_G) : Nat := G.2.2.2.1
abbrev gz_ad (G : jz_G) : Nat → Nat := G.2.2.2.2.1
abbrev gz_E (G : jz_G) : Nat → (Nat → Int32) → va_E := G.2.2.2.2.2
/-- the world of a memory -/
def jz_w (G : jz_G) (m : jz_M) : va_W := (List.range (gz_N G)).map (fun k => (gz_ad G k, gz_E G k (m k)))
def jz_F (G : jz_G) : Nat → Prop := fun q => ∃ k, k < gz_N G ∧ q = gz_ad G k
def jz_I (G : jz_G) : Prop := ∀ i j, i < gz_N G → j < gz_N G → gz_ad G i = gz_ad G j → i = j
theorem jz_w_at {G : jz_G} {m : jz_M} {k : Nat} (h : k < gz_N G) : (jz_w G m)[k]? = some (gz_ad G k, gz_E G k (m k)) := by
  simp [jz_w, List.getElem?_range h]
theorem jz_w_of {G : jz_G} {m : jz_M} {k : Nat} {q : Nat × va_E} (h : (jz_w G m)[k]? = some q) : k < gz_N G ∧ q = (gz_ad G k, gz_E G k (m k)) := by
  have hl : k < gz_N G := by
    have := (List.getElem?_eq_some_iff.mp h).1
    simpa [jz_w] using this
  exact ⟨hl, (Option.some.inj ((jz_w_at hl).symm.trans h)).symm⟩
theorem jz_w_D {G : jz_G} {m : jz_M} (hI : jz_I G) : va_D (jz_F G) (jz_w G m) := by
  refine ⟨fun i j x y hx hy hxy => ?_, fun k q hk => ?_⟩
  · obtain ⟨h1, rfl⟩ := jz_w_of hx
    obtain ⟨h2, rfl⟩ := jz_w_of hy
    exact hI i j h1 h2 hxy
  · obtain ⟨h1, rfl⟩ := jz_w_of hk
    exact ⟨k, h1, rfl⟩
/-- a write: one int of one cell -/
def jz_up (m : jz_M) (k i : Nat) (v : Int32) : jz_M := va_up m k (upd (m k) i v)
theorem jz_w_set {G : jz_G} {m : jz_M} {k : Nat} (f : Nat → Int32) : (jz_w G m).set k (gz_ad G k, gz_E G k f) = jz_w G (va_up m k f) := by
  apply List.ext_getElem?
  intro j
  by_cases hl : j < gz_N G
  · rw [jz_w_at hl]
    by_cases hj : j = k
    · subst hj
      rw [List.getElem?_set_self (by simpa [jz_w] using hl), va_up_self]
    · rw [List.getElem?_set_ne (Ne.symm hj), jz_w_at hl, va_up_ne _ _ hj]
  · rw [List.getElem?_eq_none (by simp [jz_w]; omega), List.getElem?_eq_none (by simp [jz_w]; omega)]
-- the tables' words: those that a callee may be given as words, and those of nest mates, which a world carries
def gw_ok (w : Cond) : Bool := (w.onTables && w.keeps) || (match w with | .arrayClass _ => true | _ => false)
def gw_ne (w : Cond) : Bool := match w with | .fieldLinkNest .. => true | .methodLinkNest .. => true | _ => false
def gw_tbl : List Cond := lw_tbl.filter gw_ok
def nw_tbl : List Cond := lw_tbl.filter gw_ne
theorem gw_in {w : Cond} (h : w ∈ lw_tbl) (hk : gw_ok w = true) : w ∈ gw_tbl := List.mem_filter.mpr ⟨h, hk⟩
theorem nw_in {w : Cond} (h : w ∈ lw_tbl) (hk : gw_ne w = true) : w ∈ nw_tbl := List.mem_filter.mpr ⟨h, hk⟩
def nw_ok (U : State) : Prop := ∀ w ∈ nw_tbl, va_Nw w U
theorem nw_ok.warm {s U : State} (hW : s.WarmedH U.vm) (h : nw_ok s) : nw_ok U := by
  intro w hw
  have h1 := h w hw
  have h2 := (List.mem_filter.mp hw).2
  cases w <;> first | exact va_Nw.warmF hW h1 | exact va_Nw.warmM hW h1 | (exfalso; simp [gw_ne] at h2)
theorem nw_ok.same {s U : State} (hv : s.vm = U.vm) (h : nw_ok s) : nw_ok U := by
  intro w hw
  have h1 := h w hw
  have h2 := (List.mem_filter.mp hw).2
  cases w <;> first | exact va_Nw.same rfl hv h1 | (exfalso; simp [gw_ne] at h2)
theorem gw_good {cd : Cond} (hc : cd ∈ gw_tbl) : GoodIn gw_tbl (cd :: gw_tbl) := by
  have key : ∀ w ∈ gw_tbl, (w.onTables && w.keeps) = true ∨ ∃ ty, w = .arrayClass ty := by
    intro w hw
    have h2 := (List.mem_filter.mp hw).2
    unfold gw_ok at h2
    cases hb : (w.onTables && w.keeps) with
    | true => exact Or.inl rfl
    | false =>
      rw [hb, Bool.false_or] at h2
      cases w <;> first | exact Or.inr ⟨_, rfl⟩ | (exfalso; simp at h2)
  intro w hw
  rcases List.mem_cons.mp hw with rfl | hw
  · exact ⟨hc, key _ hc⟩
  · exact ⟨hw, key _ hw⟩
/-- the world of a memory holds at a state -/
def jz_W (G : jz_G) (m : jz_M) (U : State) : Prop := va_P (gz_D G) (gz_cl G) (jz_w G m) U.heap ∧ va_K (gz_D G) (gz_cl G) (gz_ty G) U ∧ nw_ok U
/-- what a walk knows of its method -/
def jz_C (X : jz_X) (nL : Nat) (cc : ByteArray) (own : String) (ret : Option FieldType) (rm0 : Room) (G : jz_G) : Prop :=
  (xz_p X).tables.exec = Jvm.exec ∧ (xz_c X).code = cc ∧ (xz_c X).maxLocals = nL ∧ (xz_s X).vm.findClass own = some (xz_m X).cls ∧ (∀ w ∈ gw_tbl, w.before (xz_a X) (xz_s X) = true) ∧ va_K (gz_D G) (gz_cl G) (gz_ty G) (xz_s X) ∧ jz_I G ∧ (xz_t X).locks = false ∧ (xz_t X).sig.returnType = ret ∧ xz_R X = rm0 ∧ nw_ok (xz_s X)
/-- THE JUDGEMENT: at pc, with these locals and this stack, over any heap that holds the memory, the walk comes to Q -/
def jz_J (X : jz_X) (nL : Nat) (G : jz_G) (Q : State → Prop) (m : jz_M) (lv : List (Nat × Value)) (pc : Nat) (st : List Value) : Prop :=
  ∀ (H : Heap) (locs : List Loc) (ls : Array Slot), va_P (gz_D G) (gz_cl G) (jz_w G m) H → va_S (jz_F G) (xz_s X).heap H locs → lv_has ls nL lv → W (xz_p X) (xz_l X) (xz_e X) (xz_R X) (xz_s X) (xz_m X) (xz_a X) (xz_b X) (xz_t X) (xz_c X) H locs 0 0 Q (F0 (xz_m X) pc ls st)
def jz_q (X : jz_X) (G : jz_G) (ov : Option Value) (m : jz_M) : State → Prop := MQ (xz_b X) (fun _ st o t => o = .returned ov ∧ jz_W G m t ∧ va_F (jz_F G) st t) (xz_a X) (xz_s X) 0 0 (jz_F G)
/-- A CONTRACT: from a world with m, with these arguments, y returns ov, in a world with m'; nothing else changes, nothing is made -/
def jz_m (l : Launch) (y : MethodName) (cd : Cond) (rm : Room) (G : jz_G) (as : List Value) (m : jz_M) (ov : Option Value) (m' : jz_M) : Prop :=
  Met l y (cd :: gw_tbl) rm (va_Pc as (jz_W G m)) (fun _ st o t => o = .returned ov ∧ jz_W G m' t ∧ va_F (jz_F G) st t) 0 0 (jz_F G)
-- small words for the decompiled functions
def jz_n {α β : Type} (e : α) (k : α → β) : β := k e
theorem jz_ne {α β : Type} {e : α} {k : α → β} {r : β} (h : jz_n e k = r) : ∃ x, x = e ∧ k x = r := ⟨e, rfl, h⟩
theorem jz_b {α β : Type} {o : Option α} {k : α → Option β} {r : β} (h : o.bind k = some r) : ∃ v, o = some v ∧ k v = some r := by
  cases o with
  | none => cases h
  | some v => exact ⟨v, rfl, h⟩
def jz_ix (n : Nat) (i : Int32) : Option Nat := if i < 0 ∨ n ≤ i.toNatClampNeg then none else some i.toNatClampNeg
theorem jz_ix_in {n j : Nat} {i : Int32} (h : jz_ix n i = some j) : vp_in i n ∧ i.toNatClampNeg = j ∧ j < n := by
  unfold jz_ix at h
  by_cases hc : i < 0 ∨ n ≤ i.toNatClampNeg
  · rw [if_pos hc] at h; cases h
  · rw [if_neg hc] at h
    have h2 := Option.some.inj h
    refine ⟨hc, h2, ?_⟩
    have h3 : ¬ n ≤ i.toNatClampNeg := fun q => hc (Or.inr q)
    omega
theorem jz_t {c : Prop} [Decidable c] {α : Type} {a b r : α} (hc : c) (h : (if c then a else b) = r) : a = r := by rw [if_pos hc] at h; exact h
theorem jz_f {c : Prop} [Decidable c] {α : Type} {a b r : α} (hc : ¬ c) (h : (if c then a else b) = r) : b = r := by rw [if_neg hc] at h; exact h
-- locals
def lz_q : List (Nat × Value) → Nat → Option Value
  | [], _ => none
  | (j, v) :: t, i => if j = i then some v else lz_q t i
theorem lz_q_mem {v : Value} {i : Nat} : ∀ {lv : List (Nat × Value)}, lz_q lv i = some v → (i, v) ∈ lv
  | [], h => by simp [lz_q] at h
  | (j, w) :: t, h => by
    unfold lz_q at h
    by_cases hj : j = i
    · rw [if_pos hj] at h; cases h; subst hj; exact List.mem_cons_self
    · rw [if_neg hj] at h; exact List.mem_cons_of_mem _ (lz_q_mem h)
theorem lz_at {ls : Array Slot} {nL : Nat} {lv : List (Nat × Value)} {i : Nat} {v : Value} (hl : lv_has ls nL lv) (h : lz_q lv i = some v) : ls[i]? = some (.val v) := hl.2.2 (i, v) (lz_q_mem h)
def lz_s : List (Nat × Value) → Nat → Value → List (Nat × Value)
  | [], i, v => [(i, v)]
  | (j, w) :: t, i, v => if j = i then (i, v) :: t.filter (fun q => !(q.1 == i)) else (j, w) :: lz_s t i v
theorem lz_s_mem {v : Value} {i : Nat} {q : Nat × Value} : ∀ {lv : List (Nat × Value)}, q ∈ lz_s lv i v → q = (i, v) ∨ (q ∈ lv ∧ q.1 ≠ i)
  | [], h => by simp [lz_s] at h; exact Or.inl h
  | (j, w) :: t, h => by
    unfold lz_s at h
    by_cases hj : j = i
    · rw [if_pos hj] at h
      rcases List.mem_cons.mp h with h | h
      · exact Or.inl h
      · obtain ⟨h1, h2⟩ := List.mem_filter.mp h
        exact Or.inr ⟨List.mem_cons_of_mem _ h1, by simpa using h2⟩
    · rw [if_neg hj] at h
      rcases List.mem_cons.mp h with h | h
      · subst h; exact Or.inr ⟨List.mem_cons_self, hj⟩
      · rcases lz_s_mem h with h | ⟨h1, h2⟩
        · exact Or.inl h
        · exact Or.inr ⟨List.mem_cons_of_mem _ h1, h2⟩
/-- all locals are of one word -/
def lz_1 (lv : List (Nat × Value)) : Bool := lv.all (fun q => q.2.category == 1)
theorem lz_store {ls : Array Slot} {nL : Nat} {lv lv' : List (Nat × Value)} {i : Nat} {v : Value} (h1 : lz_1 lv = true) (hl : lz_s lv i v = lv')
    (h : lv_has ls nL ((i, v) :: lv.filter (fun q => !(q.1 == i) && !(q.1 + 1 == i && q.2.category == 2)))) : lv_has ls nL lv' := by
  subst hl
  refine ⟨h.1, h.2.1, fun q hq => ?_⟩
  rcases lz_s_mem hq with rfl | ⟨h2, h3⟩
  · exact h.2.2 _ List.mem_cons_self
  · refine h.2.2 _ (List.mem_cons_of_mem _ (List.mem_filter.mpr ⟨h2, ?_⟩))
    have h4 := List.all_eq_true.mp h1 q h2
    simp at h4
    simp [h3, h4]
end
section
/-! the judgement's rows, an instruction each -/
theorem jr_iadd {X : jz_X} {nL : Nat} {cc : ByteArray} {own : String} {ret : Option FieldType} {rm0 : Room} {G : jz_G} {Q : State → Prop} {m : jz_M} {lv : List (Nat × Value)} {st : List Value} (pc : Nat) {x y : Int32} (C : jz_C X nL cc own ret rm0 G) (d : decode cc pc = .ok (.iadd, 1)) (k : jz_J X nL G Q m lv (pc + 1) (.int (x + y) :: st)) : jz_J X nL G Q m lv pc (.int y :: .int x :: st) := fun H locs ls hP hS hl => lv_iadd C.1 C.2.1 d (k H locs ls hP hS hl)
theorem jr_isub {X : jz_X} {nL : Nat} {cc : ByteArray} {own : String} {ret : Option FieldType} {rm0 : Room} {G : jz_G} {Q : State → Prop} {m : jz_M} {lv : List (Nat × Value)} {st : List Value} (pc : Nat) {x y : Int32} (C : jz_C X nL cc own ret rm0 G) (d : decode cc pc = .ok (.isub, 1)) (k : jz_J X nL G Q m lv (pc + 1) (.int (x - y) :: st)) : jz_J X nL G Q m lv pc (.int y :: .int x :: st) := fun H locs ls hP hS hl => lv_isub C.1 C.2.1 d (k H locs ls hP hS hl)
theorem jr_imul {X : jz_X} {nL : Nat} {cc : ByteArray} {own : String} {ret : Option FieldType} {rm0 : Room} {G : jz_G} {Q : State → Prop} {m : jz_M} {lv : List (Nat × Value)} {st : List Value} (pc : Nat) {x y : Int32} (C : jz_C X nL cc own ret rm0 G) (d : decode cc pc = .ok (.imul, 1)) (k : jz_J X nL G Q m lv (pc + 1) (.int (x * y) :: st)) : jz_J X nL G Q m lv pc (.int y :: .int x :: st) := fun H locs ls hP hS hl => lv_imul C.1 C.2.1 d (k H locs ls hP hS hl)
theorem jr_iand {X : jz_X} {nL : Nat} {cc : ByteArray} {own : String} {ret : Option FieldType} {rm0 : Room} {G : jz_G} {Q : State → Prop} {m : jz_M} {lv : List (Nat × Value)} {st : List Value} (pc : Nat) {x y : Int32} (C : jz_C X nL cc own ret rm0 G) (d : decode cc pc = .ok (.iand, 1)) (k : jz_J X nL G Q m lv (pc + 1) (.int (x &&& y) :: st)) : jz_J X nL G Q m lv pc (.int y :: .int x :: st) := fun H locs ls hP hS hl => lv_iand C.1 C.2.1 d (k H locs ls hP hS hl)
theorem jr_ior {X : jz_X} {nL : Nat} {cc : ByteArray} {own : String} {ret : Option FieldType} {rm0 : Room} {G : jz_G} {Q : State → Prop} {m : jz_M} {lv : List (Nat × Value)} {st : List Value} (pc : Nat) {x y : Int32} (C : jz_C X nL cc own ret rm0 G) (d : decode cc pc = .ok (.ior, 1)) (k : jz_J X nL G Q m lv (pc + 1) (.int (x ||| y) :: st)) : jz_J X nL G Q m lv pc (.int y :: .int x :: st) := fun H locs ls hP hS hl => lv_ior C.1 C.2.1 d (k H locs ls hP hS hl)
theorem jr_ixor {X : jz_X} {nL : Nat} {cc : ByteArray} {own : String} {ret : Option FieldType} {rm0 : Room} {G : jz_G} {Q : State → Prop} {m : jz_M} {lv : List (Nat × Value)} {st : List Value} (pc : Nat) {x y : Int32} (C : jz_C X nL cc own ret rm0 G) (d : decode cc pc = .ok (.ixor, 1)) (k : jz_J X nL G Q m lv (pc + 1) (.int (x ^^^ y) :: st)) : jz_J X nL G Q m lv pc (.int y :: .int x :: st) := fun H locs ls hP hS hl => lv_ixor C.1 C.2.1 d (k H locs ls hP hS hl)
theorem jr_ishl {X : jz_X} {nL : Nat} {cc : ByteArray} {own : String} {ret : Option FieldType} {rm0 : Room} {G : jz_G} {Q : State → Prop} {m : jz_M} {lv : List (Nat × Value)} {st : List Value} (pc : Nat) {x y : Int32} (C : jz_C X nL cc own ret rm0 G) (d : decode cc pc = .ok (.ishl, 1)) (k : jz_J X nL G Q m lv (pc + 1) (.int (x <<< (y &&& 31)) :: st)) : jz_J X nL G Q m lv pc (.int y :: .int x :: st) := fun H locs ls hP hS hl => lv_ishl C.1 C.2.1 d (k H locs ls hP hS hl)
theorem jr_ishr {X : jz_X} {nL : Nat} {cc : ByteArray} {own : String} {ret : Option FieldType} {rm0 : Room} {G : jz_G} {Q : State → Prop} {m : jz_M} {lv : List (Nat × Value)} {st : List Value} (pc : Nat) {x y : Int32} (C : jz_C X nL cc own ret rm0 G) (d : decode cc pc = .ok (.ishr, 1)) (k : jz_J X nL G Q m lv (pc + 1) (.int (x >>> (y &&& 31)) :: st)) : jz_J X nL G Q m lv pc (.int y :: .int x :: st) := fun H locs ls hP hS hl => lv_ishr C.1 C.2.1 d (k H locs ls hP hS hl)
theorem jr_idiv {X : jz_X} {nL : Nat} {cc : ByteArray} {own : String} {ret : Option FieldType} {rm0 : Room} {G : jz_G} {Q : State → Prop} {m : jz_M} {lv : List (Nat × Value)} {st : List Value} (pc : Nat) {x y : Int32} (C : jz_C X nL cc own ret rm0 G) (d : decode cc pc = .ok (.idiv, 1)) (hne : ¬ y = 0) (k : jz_J X nL G Q m lv (pc + 1) (.int (x / y) :: st)) : jz_J X nL G Q m lv pc (.int y :: .int x :: st) := fun H locs ls hP hS hl => lv_idiv C.1 C.2.1 d hne (k H locs ls hP hS hl)
theorem jr_irem {X : jz_X} {nL : Nat} {cc : ByteArray} {own : String} {ret : Option FieldType} {rm0 : Room} {G : jz_G} {Q : State → Prop} {m : jz_M} {lv : List (Nat × Value)} {st : List Value} (pc : Nat) {x y : Int32} (C : jz_C X nL cc own ret rm0 G) (d : decode cc pc = .ok (.irem, 1)) (hne : ¬ y = 0) (k : jz_J X nL G Q m lv (pc + 1) (.int (x - x / y * y) :: st)) : jz_J X nL G Q m lv pc (.int y :: .int x :: st) := fun H locs ls hP hS hl => lv_irem C.1 C.2.1 d hne (k H locs ls hP hS hl)
theorem jr_iconst {X : jz_X} {nL : Nat} {cc : ByteArray} {own : String} {ret : Option FieldType} {rm0 : Room} {G : jz_G} {Q : State → Prop} {m : jz_M} {lv : List (Nat × Value)} {st : List Value} (pc : Nat) {n : Int} (v : Int32) (C : jz_C X nL cc own ret rm0 G) (d : decode cc pc = .ok (.iconst n, 1)) (hv : Int32.ofInt n = v) (k : jz_J X nL G Q m lv (pc + 1) (.int v :: st)) : jz_J X nL G Q m lv pc st := fun H locs ls hP hS hl => lv_iconst C.1 C.2.1 d hv (k H locs ls hP hS hl)
theorem jr_bipush {X : jz_X} {nL : Nat} {cc : ByteArray} {own : String} {ret : Option FieldType} {rm0 : Room} {G : jz_G} {Q : State → Prop} {m : jz_M} {lv : List (Nat × Value)} {st : List Value} (pc : Nat) {n : Int} (v : Int32) (C : jz_C X nL cc own ret rm0 G) (d : decode cc pc = .ok (.bipush n, 2)) (hv : (Int8.ofInt n).toInt32 = v) (k : jz_J X nL G Q m lv (pc + 2) (.int v :: st)) : jz_J X nL G Q m lv pc st := fun H locs ls hP hS hl => lv_bipush C.1 C.2.1 d hv (k H locs ls hP hS hl)
theorem jr_sipush {X : jz_X} {nL : Nat} {cc : ByteArray} {own : String} {ret : Option FieldType} {rm0 : Room} {G : jz_G} {Q : State → Prop} {m : jz_M} {lv : List (Nat × Value)} {st : List Value} (pc : Nat) {n : Int} (v : Int32) (C : jz_C X nL cc own ret rm0 G) (d : decode cc pc = .ok (.sipush n, 3)) (hv : (Int16.ofInt n).toInt32 = v) (k : jz_J X nL G Q m lv (pc + 3) (.int v :: st)) : jz_J X nL G Q m lv pc st := fun H locs ls hP hS hl => lv_sipush C.1 C.2.1 d hv (k H locs ls hP hS hl)
theorem jr_ldc {X : jz_X} {nL : Nat} {cc : ByteArray} {own : String} {ret : Option FieldType} {rm0 : Room} {G : jz_G} {Q : State → Prop} {m : jz_M} {lv : List (Nat × Value)} {st : List Value} (pc : Nat) {ix : Nat} (v : Int32) (C : jz_C X nL cc own ret rm0 G) (d : decode cc pc = .ok (.ldc ix, 2)) (hc : Cond.constant own ix v ∈ lw_tbl) (k : jz_J X nL G Q m lv (pc + 2) (.int v :: st)) : jz_J X nL G Q m lv pc st := fun H locs ls hP hS hl => lv_ldc C.1 C.2.1 C.2.2.2.1 (C.2.2.2.2.1 _ (gw_in hc (by first | rfl | simp [gw_ok, Cond.onTables, Cond.keeps, Cond.steady]))) d (k H locs ls hP hS hl)
theorem jr_iload_n {X : jz_X} {nL : Nat} {cc : ByteArray} {own : String} {ret : Option FieldType} {rm0 : Room} {G : jz_G} {Q : State → Prop} {m : jz_M} {lv : List (Nat × Value)} {st : List Value} (pc : Nat) {i : Fin 4} {x : Int32} (C : jz_C X nL cc own ret rm0 G) (d : decode cc pc = .ok (.iload_n i, 1)) (hq : lz_q lv i = some (.int x)) (k : jz_J X nL G Q m lv (pc + 1) (.int x :: st)) : jz_J X nL G Q m lv pc st := fun H locs ls hP hS hl => lv_iload_n C.1 C.2.1 d rfl (lz_at hl hq) (k H locs ls hP hS hl)
theorem jr_iload {X : jz_X} {nL : Nat} {cc : ByteArray} {own : String} {ret : Option FieldType} {rm0 : Room} {G : jz_G} {Q : State → Prop} {m : jz_M} {lv : List (Nat × Value)} {st : List Value} (pc : Nat) {i : Nat} {x : Int32} (C : jz_C X nL cc own ret rm0 G) (d : decode cc pc = .ok (.iload i, 2)) (hq : lz_q lv i = some (.int x)) (k : jz_J X nL G Q m lv (pc + 2) (.int x :: st)) : jz_J X nL G Q m lv pc st := fun H locs ls hP hS hl => lv_iload C.1 C.2.1 d (lz_at hl hq) (k H locs ls hP hS hl)
theorem jr_istore_n {X : jz_X} {nL : Nat} {cc : ByteArray} {own : String} {ret : Option FieldType} {rm0 : Room} {G : jz_G} {Q : State → Prop} {m : jz_M} {lv : List (Nat × Value)} {st : List Value} (pc : Nat) {i : Fin 4} {x : Int32} (lv' : List (Nat × Value)) (C : jz_C X nL cc own ret rm0 G) (d : decode cc pc = .ok (.istore_n i, 1)) (h1 : lz_1 lv = true) (hn : (i : Nat) < nL) (hq : lz_s lv i (.int x) = lv') (k : jz_J X nL G Q m lv' (pc + 1) st) : jz_J X nL G Q m lv pc (.int x :: st) := fun H locs ls hP hS hl => lv_istore_n C.1 C.2.1 d rfl hl hn rfl (fun ls2 hl2 => k H locs ls2 hP hS (lz_store h1 hq hl2))
theorem jr_istore {X : jz_X} {nL : Nat} {cc : ByteArray} {own : String} {ret : Option FieldType} {rm0 : Room} {G : jz_G} {Q : State → Prop} {m : jz_M} {lv : List (Nat × Value)} {st : List Value} (pc : Nat) {i : Nat} {x : Int32} (lv' : List (Nat × Value)) (C : jz_C X nL cc own ret rm0 G) (d : decode cc pc = .ok (.istore i, 2)) (h1 : lz_1 lv = true) (hn : i < nL) (hq : lz_s lv i (.int x) = lv') (k : jz_J X nL G Q m lv' (pc + 2) st) : jz_J X nL G Q m lv pc (.int x :: st) := fun H locs ls hP hS hl => lv_istore C.1 C.2.1 d hl hn rfl (fun ls2 hl2 => k H locs ls2 hP hS (lz_store h1 hq hl2))
theorem jr_aload_n {X : jz_X} {nL : Nat} {cc : ByteArray} {own : String} {ret : Option FieldType} {rm0 : Room} {G : jz_G} {Q : State → Prop} {m : jz_M} {lv : List (Nat × Value)} {st : List Value} (pc : Nat) {i : Fin 4} {x : Nat} (C : jz_C X nL cc own ret rm0 G) (d : decode cc pc = .ok (.aload_n i, 1)) (hq : lz_q lv i = some (.ref x)) (k : jz_J X nL G Q m lv (pc + 1) (.ref x :: st)) : jz_J X nL G Q m lv pc st := fun H locs ls hP hS hl => lv_aload_n C.1 C.2.1 d rfl (lz_at hl hq) (k H locs ls hP hS hl)
theorem jr_aload {X : jz_X} {nL : Nat} {cc : ByteArray} {own : String} {ret : Option FieldType} {rm0 : Room} {G : jz_G} {Q : State → Prop} {m : jz_M} {lv : List (Nat × Value)} {st : List Value} (pc : Nat) {i : Nat} {x : Nat} (C : jz_C X nL cc own ret rm0 G) (d : decode cc pc = .ok (.aload i, 2)) (hq : lz_q lv i = some (.ref x)) (k : jz_J X nL G Q m lv (pc + 2) (.ref x :: st)) : jz_J X nL G Q m lv pc st := fun H locs ls hP hS hl => lv_aload C.1 C.2.1 d (lz_at hl hq) (k H locs ls hP hS hl)
theorem jr_astore_n {X : jz_X} {nL : Nat} {cc : ByteArray} {own : String} {ret : Option FieldType} {rm0 : Room} {G : jz_G} {Q : State → Prop} {m : jz_M} {lv : List (Nat × Value)} {st : List Value} (pc : Nat) {i : Fin 4} {x : Nat} (lv' : List (Nat × Value)) (C : jz_C X nL cc own ret rm0 G) (d : decode cc pc = .ok (.astore_n i, 1)) (h1 : lz_1 lv = true) (hn : (i : Nat) < nL) (hq : lz_s lv i (.ref x) = lv') (k : jz_J X nL G Q m lv' (pc + 1) st) : jz_J X nL G Q m lv pc (.ref x :: st) := fun H locs ls hP hS hl => lv_astore_n C.1 C.2.1 d rfl hl hn rfl (fun ls2 hl2 => k H locs ls2 hP hS (lz_store h1 hq hl2))
theorem jr_astore {X : jz_X} {nL : Nat} {cc : ByteArray} {own : String} {ret : Option FieldType} {rm0 : Room} {G : jz_G} {Q : State → Prop} {m : jz_M} {lv : List (Nat × Value)} {st : List Value} (pc : Nat) {i : Nat} {x : Nat} (lv' : List (Nat × Value)) (C : jz_C X nL cc own ret rm0 G) (d : decode cc pc = .ok (.astore i, 2)) (h1 : lz_1 lv = true) (hn : i < nL) (hq : lz_s lv i (.ref x) = lv') (k : jz_J X nL G Q m lv' (pc + 2) st) : jz_J X nL G Q m lv pc (.ref x :: st) := fun H locs ls hP hS hl => lv_astore C.1 C.2.1 d hl hn rfl (fun ls2 hl2 => k H locs ls2 hP hS (lz_store h1 hq hl2))
theorem lz_mem_at {lv : List (Nat × Value)} {i : Nat} {v : Value} (h : lz_q lv i = some v) : ∃ k : Nat, lv[k]? = some (i, v) := List.getElem?_of_mem (lz_q_mem h)
theorem jr_iinc {X : jz_X} {nL : Nat} {cc : ByteArray} {own : String} {ret : Option FieldType} {rm0 : Room} {G : jz_G} {Q : State → Prop} {m : jz_M} {lv : List (Nat × Value)} {st : List Value} (pc : Nat) {i : Nat} {n : Int} {x : Int32} {v : Int32} (lv' : List (Nat × Value)) (C : jz_C X nL cc own ret rm0 G) (d : decode cc pc = .ok (.iinc i n, 3)) (h1 : lz_1 lv = true) (hn : i < nL) (hx : lz_q lv i = some (.int x)) (hv : v = x + Int32.ofInt n) (hq : lz_s lv i (.int v) = lv') (k : jz_J X nL G Q m lv' (pc + 3) st) : jz_J X nL G Q m lv pc st := fun H locs ls hP hS hl => by
  obtain ⟨q, hk⟩ := lz_mem_at hx
  exact lv_iinc C.1 C.2.1 d hl hk hv.symm hn rfl (fun ls2 hl2 => k H locs ls2 hP hS (lz_store h1 hq hl2))
theorem jr_dup {X : jz_X} {nL : Nat} {cc : ByteArray} {own : String} {ret : Option FieldType} {rm0 : Room} {G : jz_G} {Q : State → Prop} {m : jz_M} {lv : List (Nat × Value)} {st : List Value} (pc : Nat) {v : Value} (C : jz_C X nL cc own ret rm0 G) (d : decode cc pc = .ok (.dup, 1)) (h1 : v.category = 1) (k : jz_J X nL G Q m lv (pc + 1) (v :: v :: st)) : jz_J X nL G Q m lv pc (v :: st) := fun H locs ls hP hS hl => lv_dup C.1 C.2.1 d h1 (k H locs ls hP hS hl)
theorem jr_pop {X : jz_X} {nL : Nat} {cc : ByteArray} {own : String} {ret : Option FieldType} {rm0 : Room} {G : jz_G} {Q : State → Prop} {m : jz_M} {lv : List (Nat × Value)} {st : List Value} (pc : Nat) {v : Value} (C : jz_C X nL cc own ret rm0 G) (d : decode cc pc = .ok (.pop, 1)) (h1 : v.category = 1) (k : jz_J X nL G Q m lv (pc + 1) st) : jz_J X nL G Q m lv pc (v :: st) := fun H locs ls hP hS hl => lv_pop C.1 C.2.1 d h1 (k H locs ls hP hS hl)
theorem jr_dup2 {X : jz_X} {nL : Nat} {cc : ByteArray} {own : String} {ret : Option FieldType} {rm0 : Room} {G : jz_G} {Q : State → Prop} {m : jz_M} {lv : List (Nat × Value)} {st : List Value} (pc : Nat) {v w : Value} (C : jz_C X nL cc own ret rm0 G) (d : decode cc pc = .ok (.dup2, 1)) (h1 : v.category = 1) (h2 : w.category = 1) (k : jz_J X nL G Q m lv (pc + 1) (v :: w :: v :: w :: st)) : jz_J X nL G Q m lv pc (v :: w :: st) := fun H locs ls hP hS hl => lv_dup2_11 C.1 C.2.1 d h1 h2 (k H locs ls hP hS hl)
theorem jr_goto {X : jz_X} {nL : Nat} {cc : ByteArray} {own : String} {ret : Option FieldType} {rm0 : Room} {G : jz_G} {Q : State → Prop} {m : jz_M} {lv : List (Nat × Value)} {st : List Value} (pc : Nat) {off : Int} (tgt : Nat) (C : jz_C X nL cc own ret rm0 G) (d : decode cc pc = .ok (.goto off, 3)) (ht : (pc : Int) + off = (tgt : Int)) (k : jz_J X nL G Q m lv tgt st) : jz_J X nL G Q m lv pc st := fun H locs ls hP hS hl => lv_goto C.1 C.2.1 d ht (k H locs ls hP hS hl)
theorem jr_if_eq {X : jz_X} {nL : Nat} {cc : ByteArray} {own : String} {ret : Option FieldType} {rm0 : Room} {G : jz_G} {Q : State → Prop} {m : jz_M} {lv : List (Nat × Value)} {st : List Value} (pc : Nat) {x : Int32} {off : Int} (tgt : Nat) (C : jz_C X nL cc own ret rm0 G) (d : decode cc pc = .ok (.ifCond .eq off, 3)) (ht : (pc : Int) + off = (tgt : Int)) (kt : x = 0 → jz_J X nL G Q m lv tgt st) (kf : ¬ (x = 0) → jz_J X nL G Q m lv (pc + 3) st) : jz_J X nL G Q m lv pc (.int x :: st) := fun H locs ls hP hS hl => lv_if_eq C.1 C.2.1 d ht (fun q => kt q H locs ls hP hS hl) (fun q => kf q H locs ls hP hS hl)
theorem jr_icmp_eq {X : jz_X} {nL : Nat} {cc : ByteArray} {own : String} {ret : Option FieldType} {rm0 : Room} {G : jz_G} {Q : State → Prop} {m : jz_M} {lv : List (Nat × Value)} {st : List Value} (pc : Nat) {x y : Int32} {off : Int} (tgt : Nat) (C : jz_C X nL cc own ret rm0 G) (d : decode cc pc = .ok (.if_icmp .eq off, 3)) (ht : (pc : Int) + off = (tgt : Int)) (kt : x = y → jz_J X nL G Q m lv tgt st) (kf : ¬ (x = y) → jz_J X nL G Q m lv (pc + 3) st) : jz_J X nL G Q m lv pc (.int y :: .int x :: st) := fun H locs ls hP hS hl => lv_icmp_eq C.1 C.2.1 d ht (fun q => kt q H locs ls hP hS hl) (fun q => kf q H locs ls hP hS hl)
theorem jr_if_ne {X : jz_X} {nL : Nat} {cc : ByteArray} {own : String} {ret : Option FieldType} {rm0 : Room} {G : jz_G} {Q : State → Prop} {m : jz_M} {lv : List (Nat × Value)} {st : List Value} (pc : Nat) {x : Int32} {off : Int} (tgt : Nat) (C : jz_C X nL cc own ret rm0 G) (d : decode cc pc = .ok (.ifCond .ne off, 3)) (ht : (pc : Int) + off = (tgt : Int)) (kt : ¬ x = 0 → jz_J X nL G Q m lv tgt st) (kf : ¬ (¬ x = 0) → jz_J X nL G Q m lv (pc + 3) st) : jz_J X nL G Q m lv pc (.int x :: st) := fun H locs ls hP hS hl => lv_if_ne C.1 C.2.1 d ht (fun q => kt q H locs ls hP hS hl) (fun q => kf (fun h => h q) H locs ls hP hS hl)
theorem jr_icmp_ne {X : jz_X} {nL : Nat} {cc : ByteArray} {own : String} {ret : Option FieldType} {rm0 : Room} {G : jz_G} {Q : State → Prop} {m : jz_M} {lv : List (Nat × Value)} {st : List Value} (pc : Nat) {x y : Int32} {off : Int} (tgt : Nat) (C : jz_C X nL cc own ret rm0 G) (d : decode cc pc = .ok (.if_icmp .ne off, 3)) (ht : (pc : Int) + off = (tgt : Int)) (kt : ¬ x = y → jz_J X nL G Q m lv tgt st) (kf : ¬ (¬ x = y) → jz_J X nL G Q m lv (pc + 3) st) : jz_J X nL G Q m lv pc (.int y :: .int x :: st) := fun H locs ls hP hS hl => lv_icmp_ne C.1 C.2.1 d ht (fun q => kt q H locs ls hP hS hl) (fun q => kf (fun h => h q) H locs ls hP hS hl)
theorem jr_if_lt {X : jz_X} {nL : Nat} {cc : ByteArray} {own : String} {ret : Option FieldType} {rm0 : Room} {G : jz_G} {Q : State → Prop} {m : jz_M} {lv : List (Nat × Value)} {st : List Value} (pc : Nat) {x : Int32} {off : Int} (tgt : Nat) (C : jz_C X nL cc own ret rm0 G) (d : decode cc pc = .ok (.ifCond .lt off, 3)) (ht : (pc : Int) + off = (tgt : Int)) (kt : x < 0 → jz_J X nL G Q m lv tgt st) (kf : ¬ (x < 0) → jz_J X nL G Q m lv (pc + 3) st) : jz_J X nL G Q m lv pc (.int x :: st) := fun H locs ls hP hS hl => lv_if_lt C.1 C.2.1 d ht (fun q => kt q H locs ls hP hS hl) (fun q => kf q H locs ls hP hS hl)
theorem jr_icmp_lt {X : jz_X} {nL : Nat} {cc : ByteArray} {own : String} {ret : Option FieldType} {rm0 : Room} {G : jz_G} {Q : State → Prop} {m : jz_M} {lv : List (Nat × Value)} {st : List Value} (pc : Nat) {x y : Int32} {off : Int} (tgt : Nat) (C : jz_C X nL cc own ret rm0 G) (d : decode cc pc = .ok (.if_icmp .lt off, 3)) (ht : (pc : Int) + off = (tgt : Int)) (kt : x < y → jz_J X nL G Q m lv tgt st) (kf : ¬ (x < y) → jz_J X nL G Q m lv (pc + 3) st) : jz_J X nL G Q m lv pc (.int y :: .int x :: st) := fun H locs ls hP hS hl => lv_icmp_lt C.1 C.2.1 d ht (fun q => kt q H locs ls hP hS hl) (fun q => kf q H locs ls hP hS hl)
theorem jr_if_ge {X : jz_X} {nL : Nat} {cc : ByteArray} {own : String} {ret : Option FieldType} {rm0 : Room} {G : jz_G} {Q : State → Prop} {m : jz_M} {lv : List (Nat × Value)} {st : List Value} (pc : Nat) {x : Int32} {off : Int} (tgt : Nat) (C : jz_C X nL cc own ret rm0 G) (d : decode cc pc = .ok (.ifCond .ge off, 3)) (ht : (pc : Int) + off = (tgt : Int)) (kt : 0 ≤ x → jz_J X nL G Q m lv tgt st) (kf : ¬ (0 ≤ x) → jz_J X nL G Q m lv (pc + 3) st) : jz_J X nL G Q m lv pc (.int x :: st) := fun H locs ls hP hS hl => lv_if_ge C.1 C.2.1 d ht (fun q => kt q H locs ls hP hS hl) (fun q => kf q H locs ls hP hS hl)
theorem jr_icmp_ge {X : jz_X} {nL : Nat} {cc : ByteArray} {own : String} {ret : Option FieldType} {rm0 : Room} {G : jz_G} {Q : State → Prop} {m : jz_M} {lv : List (Nat × Value)} {st : List Value} (pc : Nat) {x y : Int32} {off : Int} (tgt : Nat) (C : jz_C X nL cc own ret rm0 G) (d : decode cc pc = .ok (.if_icmp .ge off, 3)) (ht : (pc : Int) + off = (tgt : Int)) (kt : y ≤ x → jz_J X nL G Q m lv tgt st) (kf : ¬ (y ≤ x) → jz_J X nL G Q m lv (pc + 3) st) : jz_J X nL G Q m lv pc (.int y :: .int x :: st) := fun H locs ls hP hS hl => lv_icmp_ge C.1 C.2.1 d ht (fun q => kt q H locs ls hP hS hl) (fun q => kf q H locs ls hP hS hl)
theorem jr_if_gt {X : jz_X} {nL : Nat} {cc : ByteArray} {own : String} {ret : Option FieldType} {rm0 : Room} {G : jz_G} {Q : State → Prop} {m : jz_M} {lv : List (Nat × Value)} {st : List Value} (pc : Nat) {x : Int32} {off : Int} (tgt : Nat) (C : jz_C X nL cc own ret rm0 G) (d : decode cc pc = .ok (.ifCond .gt off, 3)) (ht : (pc : Int) + off = (tgt : Int)) (kt : 0 < x → jz_J X nL G Q m lv tgt st) (kf : ¬ (0 < x) → jz_J X nL G Q m lv (pc + 3) st) : jz_J X nL G Q m lv pc (.int x :: st) := fun H locs ls hP hS hl => lv_if_gt C.1 C.2.1 d ht (fun q => kt q H locs ls hP hS hl) (fun q => kf q H locs ls hP hS hl)
theorem jr_icmp_gt {X : jz_X} {nL : Nat} {cc : ByteArray} {own : String} {ret : Option FieldType} {rm0 : Room} {G : jz_G} {Q : State → Prop} {m : jz_M} {lv : List (Nat × Value)} {st : List Value} (pc : Nat) {x y : Int32} {off : Int} (tgt : Nat) (C : jz_C X nL cc own ret rm0 G) (d : decode cc pc = .ok (.if_icmp .gt off, 3)) (ht : (pc : Int) + off = (tgt : Int)) (kt : y < x → jz_J X nL G Q m lv tgt st) (kf : ¬ (y < x) → jz_J X nL G Q m lv (pc + 3) st) : jz_J X nL G Q m lv pc (.int y :: .int x :: st) := fun H locs ls hP hS hl => lv_icmp_gt C.1 C.2.1 d ht (fun q => kt q H locs ls hP hS hl) (fun q => kf q H locs ls hP hS hl)
theorem jr_if_le {X : jz_X} {nL : Nat} {cc : ByteArray} {own : String} {ret : Option FieldType} {rm0 : Room} {G : jz_G} {Q : State → Prop} {m : jz_M} {lv : List (Nat × Value)} {st : List Value} (pc : Nat) {x : Int32} {off : Int} (tgt : Nat) (C : jz_C X nL cc own ret rm0 G) (d : decode cc pc = .ok (.ifCond .le off, 3)) (ht : (pc : Int) + off = (tgt : Int)) (kt : x ≤ 0 → jz_J X nL G Q m lv tgt st) (kf : ¬ (x ≤ 0) → jz_J X nL G Q m lv (pc + 3) st) : jz_J X nL G Q m lv pc (.int x :: st) := fun H locs ls hP hS hl => lv_if_le C.1 C.2.1 d ht (fun q => kt q H locs ls hP hS hl) (fun q => kf q H locs ls hP hS hl)
theorem jr_icmp_le {X : jz_X} {nL : Nat} {cc : ByteArray} {own : String} {ret : Option FieldType} {rm0 : Room} {G : jz_G} {Q : State → Prop} {m : jz_M} {lv : List (Nat × Value)} {st : List Value} (pc : Nat) {x y : Int32} {off : Int} (tgt : Nat) (C : jz_C X nL cc own ret rm0 G) (d : decode cc pc = .ok (.if_icmp .le off, 3)) (ht : (pc : Int) + off = (tgt : Int)) (kt : x ≤ y → jz_J X nL G Q m lv tgt st) (kf : ¬ (x ≤ y) → jz_J X nL G Q m lv (pc + 3) st) : jz_J X nL G Q m lv pc (.int y :: .int x :: st) := fun H locs ls hP hS hl => lv_icmp_le C.1 C.2.1 d ht (fun q => kt q H locs ls hP hS hl) (fun q => kf q H locs ls hP hS hl)
theorem jr_top {X : jz_X} {nL : Nat} {G : jz_G} {Q : State → Prop} {m : jz_M} {lv : List (Nat × Value)} {st : List Value} {pc : Nat} {x y : Int32} (h : y = x) (k : jz_J X nL G Q m lv pc (.int y :: st)) : jz_J X nL G Q m lv pc (.int x :: st) := h ▸ k
theorem jr_sub {X : jz_X} {nL : Nat} {G : jz_G} {Q : State → Prop} {m : jz_M} {lv : List (Nat × Value)} {st : List Value} {pc : Nat} {lv' : List (Nat × Value)} (ks : List Nat) (hk : lv_pick lv ks = lv') (k : jz_J X nL G Q m lv' pc st) : jz_J X nL G Q m lv pc st := fun H locs ls hP hS hl => k H locs ls hP hS (lv_sub hl ks hk)
theorem jr_mem {X : jz_X} {nL : Nat} {G : jz_G} {Q : State → Prop} {m : jz_M} {lv : List (Nat × Value)} {st : List Value} {pc : Nat} {m2 : jz_M} (h : m2 = m) (k : jz_J X nL G Q m2 lv pc st) : jz_J X nL G Q m lv pc st := h ▸ k
/-- kinds of cells -/
def iz_I (G : jz_G) (k n : Nat) : Prop := k < gz_N G ∧ ∃ (t0 : Nat) (cA : ClassId), (gz_ty G)[t0]? = some (cA, .int) ∧ ∀ f, gz_E G k f = .inl (cA, n, .inl f)
def iz_Z (G : jz_G) (k n : Nat) : Prop := k < gz_N G ∧ ∃ (t0 : Nat) (cA : ClassId), (gz_ty G)[t0]? = some (cA, .boolean) ∧ ∀ f, gz_E G k f = .inl (cA, n, .inl f)
def iz_A (G : jz_G) (k n : Nat) (Cn : String) (g : Nat → Nat) : Prop := k < gz_N G ∧ ∃ (t0 : Nat) (cA : ClassId), (gz_ty G)[t0]? = some (cA, .object Cn) ∧ ∀ f, gz_E G k f = .inl (cA, n, .inr (.inr (.inr (.inr (fun j => some (gz_ad G (g j)))))))
def iz_O (G : jz_G) (k ci : Nat) (F : (Nat → Int32) → List Value) : Prop := k < gz_N G ∧ ∀ f, gz_E G k f = .inr (ci, F f)
theorem jr_iald {X : jz_X} {nL : Nat} {cc : ByteArray} {own : String} {ret : Option FieldType} {rm0 : Room} {G : jz_G} {Q : State → Prop} {m : jz_M} {lv : List (Nat × Value)} {st : List Value} (pc : Nat) {k n j : Nat} {i : Int32} (C : jz_C X nL cc own ret rm0 G) (d : decode cc pc = .ok (.iaload, 1)) (hA : iz_I G k n) (e : jz_ix n i = some j) (kk : jz_J X nL G Q m lv (pc + 1) (.int (m k j) :: st)) : jz_J X nL G Q m lv pc (.int i :: .ref (gz_ad G k) :: st) := fun H locs ls hP hS hl => by
  obtain ⟨hk, t0, cA, ht, hE⟩ := hA
  obtain ⟨h1, h2, -⟩ := jz_ix_in e
  have hz := kk H locs ls hP hS hl
  rw [← h2] at hz
  exact va_iald C.1 C.2.1 C.2.2.2.2.2.1 hP k t0 (by rw [jz_w_at hk, hE]) ht h1 d hz
theorem jr_zald {X : jz_X} {nL : Nat} {cc : ByteArray} {own : String} {ret : Option FieldType} {rm0 : Room} {G : jz_G} {Q : State → Prop} {m : jz_M} {lv : List (Nat × Value)} {st : List Value} (pc : Nat) {k n j : Nat} {i : Int32} (C : jz_C X nL cc own ret rm0 G) (d : decode cc pc = .ok (.baload, 1)) (hA : iz_Z G k n) (e : jz_ix n i = some j) (kk : jz_J X nL G Q m lv (pc + 1) (.int (m k j) :: st)) : jz_J X nL G Q m lv pc (.int i :: .ref (gz_ad G k) :: st) := fun H locs ls hP hS hl => by
  obtain ⟨hk, t0, cA, ht, hE⟩ := hA
  obtain ⟨h1, h2, -⟩ := jz_ix_in e
  have hz := kk H locs ls hP hS hl
  rw [← h2] at hz
  exact va_zald C.1 C.2.1 C.2.2.2.2.2.1 hP k t0 (by rw [jz_w_at hk, hE]) ht h1 d hz
theorem jr_aald {X : jz_X} {nL : Nat} {cc : ByteArray} {own : String} {ret : Option FieldType} {rm0 : Room} {G : jz_G} {Q : State → Prop} {m : jz_M} {lv : List (Nat × Value)} {st : List Value} (pc : Nat) {k n j : Nat} {i : Int32} {Cn : String} {g : Nat → Nat} (C : jz_C X nL cc own ret rm0 G) (d : decode cc pc = .ok (.aaload, 1)) (hA : iz_A G k n Cn g) (e : jz_ix n i = some j) (kk : jz_J X nL G Q m lv (pc + 1) (.ref (gz_ad G (g j)) :: st)) : jz_J X nL G Q m lv pc (.int i :: .ref (gz_ad G k) :: st) := fun H locs ls hP hS hl => by
  obtain ⟨hk, t0, cA, ht, hE⟩ := hA
  obtain ⟨h1, h2, -⟩ := jz_ix_in e
  have hz := kk H locs ls hP hS hl
  rw [← h2] at hz
  exact va_aldq (f := fun j => some (gz_ad G (g j))) C.1 C.2.1 C.2.2.2.2.2.1 hP k t0 (by rw [jz_w_at hk, hE]) ht h1 d hz
theorem jr_iast {X : jz_X} {nL : Nat} {cc : ByteArray} {own : String} {ret : Option FieldType} {rm0 : Room} {G : jz_G} {Q : State → Prop} {m : jz_M} {lv : List (Nat × Value)} {st : List Value} (pc : Nat) {k n j : Nat} {i x : Int32} (C : jz_C X nL cc own ret rm0 G) (d : decode cc pc = .ok (.iastore, 1)) (hA : iz_I G k n) (e : jz_ix n i = some j) (kk : jz_J X nL G Q (jz_up m k j x) lv (pc + 1) st) : jz_J X nL G Q m lv pc (.int x :: .int i :: .ref (gz_ad G k) :: st) := fun H locs ls hP hS hl => by
  obtain ⟨hk, t0, cA, ht, hE⟩ := hA
  obtain ⟨h1, h2, -⟩ := jz_ix_in e
  refine va_iast C.1 C.2.1 C.2.2.2.2.2.1 hP (jz_w_D C.2.2.2.2.2.2.1) hS k t0 (by rw [jz_w_at hk, hE]) ht h1 d (fun H1 locs1 hP1 _ hS1 => kk H1 locs1 ls ?_ hS1 hl)
  rw [h2, ← hE, jz_w_set] at hP1
  exact hP1
theorem jr_zast {X : jz_X} {nL : Nat} {cc : ByteArray} {own : String} {ret : Option FieldType} {rm0 : Room} {G : jz_G} {Q : State → Prop} {m : jz_M} {lv : List (Nat × Value)} {st : List Value} (pc : Nat) {k n j : Nat} {i x : Int32} (C : jz_C X nL cc own ret rm0 G) (d : decode cc pc = .ok (.bastore, 1)) (hA : iz_Z G k n) (e : jz_ix n i = some j) (kk : jz_J X nL G Q (jz_up m k j (vp_nar .boolean x)) lv (pc + 1) st) : jz_J X nL G Q m lv pc (.int x :: .int i :: .ref (gz_ad G k) :: st) := fun H locs ls hP hS hl => by
  obtain ⟨hk, t0, cA, ht, hE⟩ := hA
  obtain ⟨h1, h2, -⟩ := jz_ix_in e
  refine va_zast C.1 C.2.1 C.2.2.2.2.2.1 hP (jz_w_D C.2.2.2.2.2.2.1) hS k t0 (by rw [jz_w_at hk, hE]) ht h1 d (fun H1 locs1 hP1 _ hS1 => kk H1 locs1 ls ?_ hS1 hl)
  rw [h2, ← hE, jz_w_set] at hP1
  exact hP1
theorem jr_get {X : jz_X} {nL : Nat} {cc : ByteArray} {own : String} {ret : Option FieldType} {rm0 : Room} {G : jz_G} {Q : State → Prop} {m : jz_M} {lv : List (Nat × Value)} {st : List Value} (pc : Nat) {k ci ix j Nf : Nat} {ref Cn : String} {T : u_T} {F : (Nat → Int32) → List Value} {v : Value} (C : jz_C X nL cc own ret rm0 G) (d : decode cc pc = .ok (.getfield ix, 3)) (hO : iz_O G k ci F) (hc : (gz_cl G)[ci]? = some (Cn, T, Nf)) (hin : ∀ w ∈ u_ws Cn T Nf, w ∈ gw_tbl) (hj : j < Nf) (hlink : Cond.fieldLink own ix ref (T j).2.1 (T j).2.2.1 ∈ lw_tbl) (hrf : (T j).1 = ref) (hv : (F (m k))[j]? = some v) (kk : jz_J X nL G Q m lv (pc + 3) (v :: st)) : jz_J X nL G Q m lv pc (.ref (gz_ad G k) :: st) := fun H locs ls hP hS hl => by
  subst hrf
  exact va_get C.1 C.2.1 C.2.2.2.2.1 (fun w hw => hin w hw) C.2.2.2.1 C.2.2.2.2.2.1 hP k (by rw [jz_w_at hO.1, hO.2]) hc j hj (C.2.2.2.2.1 _ (gw_in hlink (by first | rfl | simp [gw_ok, Cond.onTables, Cond.keeps, Cond.steady]))) (fun _ h9 => h9) hv d (kk H locs ls hP hS hl)
theorem jr_getN {X : jz_X} {nL : Nat} {cc : ByteArray} {own : String} {ret : Option FieldType} {rm0 : Room} {G : jz_G} {Q : State → Prop} {m : jz_M} {lv : List (Nat × Value)} {st : List Value} (pc : Nat) {k ci ix j Nf : Nat} {ref Cn host : String} {T : u_T} {F : (Nat → Int32) → List Value} {v : Value} (C : jz_C X nL cc own ret rm0 G) (d : decode cc pc = .ok (.getfield ix, 3)) (hO : iz_O G k ci F) (hc : (gz_cl G)[ci]? = some (Cn, T, Nf)) (hin : ∀ w ∈ u_ws Cn T Nf, w ∈ gw_tbl) (hj : j < Nf) (hlink : Cond.fieldLinkNest own ix ref (T j).2.1 (T j).2.2.1 host ∈ lw_tbl) (hrf : (T j).1 = ref) (hv : (F (m k))[j]? = some v) (kk : jz_J X nL G Q m lv (pc + 3) (v :: st)) : jz_J X nL G Q m lv pc (.ref (gz_ad G k) :: st) := fun H locs ls hP hS hl => by
  subst hrf
  exact va_getN C.1 C.2.1 C.2.2.2.2.1 (fun w hw => hin w hw) C.2.2.2.1 C.2.2.2.2.2.1 hP k (by rw [jz_w_at hO.1, hO.2]) hc j hj (va_Nw.use rfl (C.2.2.2.2.2.2.2.2.2.2 _ (nw_in hlink rfl))) (fun _ h9 => h9) hv d (kk H locs ls hP hS hl)
theorem jr_put {X : jz_X} {nL : Nat} {cc : ByteArray} {own : String} {ret : Option FieldType} {rm0 : Room} {G : jz_G} {Q : State → Prop} {m : jz_M} {lv : List (Nat × Value)} {st : List Value} (pc : Nat) {k ci ix j Nf q : Nat} {x : Int32} {ref Cn : String} {T : u_T} {ty0 : Nat → FieldType} {ty : FieldType} {F : (Nat → Int32) → List Value} (C : jz_C X nL cc own ret rm0 G) (d : decode cc pc = .ok (.putfield ix, 3)) (hO : iz_O G k ci F) (hc : (gz_cl G)[ci]? = some (Cn, T, Nf)) (hin : ∀ w ∈ u_ws Cn T Nf, w ∈ gw_tbl) (hty : ∀ k, k < Nf → parseFieldDescriptor (T k).2.2.1 = some (ty0 k)) (hnm : ∀ a, a < Nf → ∀ b, b < Nf → a ≠ b → (T a).2.1 ≠ (T b).2.1) (hj : j < Nf) (hlink : Cond.fieldLink own ix ref (T j).2.1 (T j).2.2.1 ∈ lw_tbl) (hrf : (T j).1 = ref) (hfin : (T j).2.2.2 = false) (hd : parseFieldDescriptor (T j).2.2.1 = some ty) (hn : narrow ty (.int x) = .int x) (hfit : fits ty (.int x) = true) (hlen : j < (F (m k)).length) (hset : (F (m k)).set j (.int x) = F (upd (m k) q x)) (kk : jz_J X nL G Q (jz_up m k q x) lv (pc + 3) st) : jz_J X nL G Q m lv pc (.int x :: .ref (gz_ad G k) :: st) := fun H locs ls hP hS hl => by
  subst hrf
  refine va_put C.1 C.2.1 C.2.2.2.2.1 hin ty0 hty hnm C.2.2.2.1 C.2.2.2.2.2.1 hP (jz_w_D C.2.2.2.2.2.2.1) hS k (by rw [jz_w_at hO.1, hO.2]) hc j hj (C.2.2.2.2.1 _ (gw_in hlink (by first | rfl | simp [gw_ok, Cond.onTables, Cond.keeps, Cond.steady]))) (fun _ h9 => h9) hfin hd hn hfit hlen d (fun H1 locs1 hP1 _ hS1 => kk H1 locs1 ls ?_ hS1 hl)
  rw [hset, ← hO.2, jz_w_set] at hP1
  exact hP1
theorem jr_putN {X : jz_X} {nL : Nat} {cc : ByteArray} {own : String} {ret : Option FieldType} {rm0 : Room} {G : jz_G} {Q : State → Prop} {m : jz_M} {lv : List (Nat × Value)} {st : List Value} (pc : Nat) {k ci ix j Nf q : Nat} {x : Int32} {host : String} {ref Cn : String} {T : u_T} {ty0 : Nat → FieldType} {ty : FieldType} {F : (Nat → Int32) → List Value} (C : jz_C X nL cc own ret rm0 G) (d : decode cc pc = .ok (.putfield ix, 3)) (hO : iz_O G k ci F) (hc : (gz_cl G)[ci]? = some (Cn, T, Nf)) (hin : ∀ w ∈ u_ws Cn T Nf, w ∈ gw_tbl) (hty : ∀ k, k < Nf → parseFieldDescriptor (T k).2.2.1 = some (ty0 k)) (hnm : ∀ a, a < Nf → ∀ b, b < Nf → a ≠ b → (T a).2.1 ≠ (T b).2.1) (hj : j < Nf) (hlink : Cond.fieldLinkNest own ix ref (T j).2.1 (T j).2.2.1 host ∈ lw_tbl) (hrf : (T j).1 = ref) (hfin : (T j).2.2.2 = false) (hd : parseFieldDescriptor (T j).2.2.1 = some ty) (hn : narrow ty (.int x) = .int x) (hfit : fits ty (.int x) = true) (hlen : j < (F (m k)).length) (hset : (F (m k)).set j (.int x) = F (upd (m k) q x)) (kk : jz_J X nL G Q (jz_up m k q x) lv (pc + 3) st) : jz_J X nL G Q m lv pc (.int x :: .ref (gz_ad G k) :: st) := fun H locs ls hP hS hl => by
  subst hrf
  refine va_putN C.1 C.2.1 C.2.2.2.2.1 hin ty0 hty hnm C.2.2.2.1 C.2.2.2.2.2.1 hP (jz_w_D C.2.2.2.2.2.2.1) hS k (by rw [jz_w_at hO.1, hO.2]) hc j hj (va_Nw.use rfl (C.2.2.2.2.2.2.2.2.2.2 _ (nw_in hlink rfl))) (fun _ h9 => h9) hfin hd hn hfit hlen d (fun H1 locs1 hP1 _ hS1 => kk H1 locs1 ls ?_ hS1 hl)
  rw [hset, ← hO.2, jz_w_set] at hP1
  exact hP1
theorem jr_iret {X : jz_X} {nL : Nat} {cc : ByteArray} {own : String} {ret : Option FieldType} {rm0 : Room} {G : jz_G} {m : jz_M} {lv : List (Nat × Value)} (pc : Nat) {v : Int32} (C : jz_C X nL cc own ret rm0 G) (d : decode cc pc = .ok (.ireturn, 1)) (hr : ret = some .int) : jz_J X nL G (jz_q X G (some (.int v)) m) m lv pc [.int v] := fun H locs ls hP hS hl => W.iret C.1 C.2.1 (C.2.2.2.2.2.2.2.2.1.trans hr) (fun t ht hW => ⟨rfl, ⟨by rw [ht]; exact hP, va_K.moved hW.alike C.2.2.2.2.2.1, nw_ok.warm hW C.2.2.2.2.2.2.2.2.2.2⟩, hS.F ht⟩) hS.2.2 d C.2.2.2.2.2.2.2.1
theorem jr_zret {X : jz_X} {nL : Nat} {cc : ByteArray} {own : String} {ret : Option FieldType} {rm0 : Room} {G : jz_G} {m : jz_M} {lv : List (Nat × Value)} (pc : Nat) {v : Int32} (C : jz_C X nL cc own ret rm0 G) (d : decode cc pc = .ok (.ireturn, 1)) (hr : ret = some .boolean) (hn : narrow .boolean (.int v) = .int v) : jz_J X nL G (jz_q X G (some (.int v)) m) m lv pc [.int v] := fun H locs ls hP hS hl => W.zret C.1 C.2.1 (C.2.2.2.2.2.2.2.2.1.trans hr) hn (fun t ht hW => ⟨rfl, ⟨by rw [ht]; exact hP, va_K.moved hW.alike C.2.2.2.2.2.1, nw_ok.warm hW C.2.2.2.2.2.2.2.2.2.2⟩, hS.F ht⟩) hS.2.2 d C.2.2.2.2.2.2.2.1
theorem jr_aret {X : jz_X} {nL : Nat} {cc : ByteArray} {own : String} {ret : Option FieldType} {rm0 : Room} {G : jz_G} {m : jz_M} {lv : List (Nat × Value)} (pc : Nat) {k : Nat} {rt : FieldType} (C : jz_C X nL cc own ret rm0 G) (d : decode cc pc = .ok (.areturn, 1)) (hr : ret = some rt) (hrt : (∃ n, rt = .object n) ∨ ∃ t, rt = .array t) : jz_J X nL G (jz_q X G (some (.ref (gz_ad G k))) m) m lv pc [.ref (gz_ad G k)] := fun H locs ls hP hS hl => W.aret C.1 C.2.1 (C.2.2.2.2.2.2.2.2.1.trans hr) hrt (Or.inr ⟨_, rfl⟩) (fun t ht hW => ⟨rfl, ⟨by rw [ht]; exact hP, va_K.moved hW.alike C.2.2.2.2.2.1, nw_ok.warm hW C.2.2.2.2.2.2.2.2.2.2⟩, hS.F ht⟩) hS.2.2 d C.2.2.2.2.2.2.2.1
theorem jr_vret {X : jz_X} {nL : Nat} {cc : ByteArray} {own : String} {ret : Option FieldType} {rm0 : Room} {G : jz_G} {m : jz_M} {lv : List (Nat × Value)} (pc : Nat) (C : jz_C X nL cc own ret rm0 G) (d : decode cc pc = .ok (.return_, 1)) (hr : ret = none) : jz_J X nL G (jz_q X G none m) m lv pc [] := fun H locs ls hP hS hl => W.vret C.1 C.2.1 (C.2.2.2.2.2.2.2.2.1.trans hr) (fun t ht hW => ⟨rfl, ⟨by rw [ht]; exact hP, va_K.moved hW.alike C.2.2.2.2.2.1, nw_ok.warm hW C.2.2.2.2.2.2.2.2.2.2⟩, hS.F ht⟩) hS.2.2 d C.2.2.2.2.2.2.2.1
/-- a contract out of a walk -/
theorem jz_met {l : Launch} {y : MethodName} {cc : ByteArray} {nL : Nat} {ret : Option FieldType} {rm : Room} {G : jz_G} {as : List Value} {m m' : jz_M} {ov : Option Value} {own : String} (hy : plainName y.cls = true) (ho : y.cls = own) (hI : jz_I G) (hlen : (lg_sl as).length ≤ nL)
    (body : ∀ X : jz_X, xz_l X = l → jz_C X nL cc own ret rm G → jz_J X nL G (jz_q X G ov m') m (lv_args 0 as) 0 []) : jz_m l y (.code y cc nL ret) rm G as m ov m' := by
  refine Met.ofW (cc := cc) (maxL := nL) (ret := ret) hy rfl ?_
  intro p e s mi args below meth c s₁ B hml hv
  obtain ⟨rfl, hP, hK, hN⟩ := hv
  have hts := atoms_spec (ws := Cond.code y cc nL ret :: gw_tbl) B.pre
  subst ho
  have C : jz_C (p, l, e, (headSpec (Cond.code y cc nL ret :: gw_tbl) rm).room, s, mi, as.toArray, below, meth, c) nL cc y.cls ret rm G := ⟨B.exec, B.bytes, hml, findClass_of_methodNamed B.named, fun w h => hts w (List.mem_cons_of_mem _ h), hK, hI, B.notSynchronized, B.returns, rfl, hN⟩
  have hz := body _ rfl C s.heap [] _ hP va_S.rf (lv_entry as hlen)
  rw [lg_entry_eq]
  exact hz
/-- what a call of y needs of the tables -/
def cz_S (cd : Cond) (y : MethodName) (bytes : ByteArray) (maxL : Nat) (ret : Option FieldType) (n : Nat) : Prop := cd = .code y bytes maxL ret ∧ cd ∈ lw_tbl ∧ Cond.initialized y.cls ∈ lw_tbl ∧ (y.cls ≠ "java/lang/invoke/MethodHandle" ∧ y.cls ≠ "java/lang/invoke/VarHandle") ∧ (parseMethodDescriptor y.desc).map (fun d => d.parameters.length) = some n
def cz_V (y : MethodName) : Prop := Cond.instanceMethod y ∈ lw_tbl ∧ Cond.selects y.cls y y ∈ lw_tbl
def rz_ok (rm : Room) (maxL : Nat) (R : Room) : Bool := decide (rm.cells = 0) && decide (rm.slots = 0) && decide (rm.frames + 1 ≤ R.frames) && decide (8 + (maxL + 11) + rm.locals ≤ R.locals)
theorem rz_use {rm : Room} {maxL : Nat} {R : Room} (h : rz_ok rm maxL R = true) : rm.cells = 0 ∧ rm.slots = 0 ∧ rm.frames + 1 ≤ R.frames ∧ 8 + (maxL + 11) + rm.locals ≤ R.locals := by
  simp only [rz_ok, Bool.and_eq_true, decide_eq_true_eq] at h
  exact ⟨h.1.1.1, h.1.1.2, h.1.2, h.2⟩
theorem jz_blind {G : jz_G} {as : List Value} {m : jz_M} : FrameBlind (va_Pc as (jz_W G m)) := fun a U g mk q => by
  obtain ⟨q0, qP, qK, qN⟩ := q
  exact ⟨q0, qP, va_K.moved (u := U) (U := U.calling g mk a) (Vm.Alike.refl U.vm) qK, nw_ok.same (s := U) (U := U.calling g mk a) rfl qN⟩
/-- behind a call -/
theorem jr_run {X : jz_X} {nL : Nat} {G : jz_G} {Q : State → Prop} {lv : List (Nat × Value)} {st : List Value} {pc : Nat} {m' : jz_M} {ov : Option Value} {st0 st' : List Value} {H : Heap} {locs : List Loc} {ls : Array Slot} (hS : va_S (jz_F G) (xz_s X).heap H locs) (hl : lv_has ls nL lv)
    (hr : va_Run (xz_p X) (xz_l X) (xz_e X) (xz_R X) (xz_s X) (xz_m X) (xz_a X) (xz_b X) (xz_t X) (xz_c X) H locs 0 0 0 0 (F0 (xz_m X) pc ls st0) st (fun st o t => o = .returned ov ∧ jz_W G m' t ∧ va_F (jz_F G) st t) (jz_F G))
    (hst : ov.toList ++ st = st') (kk : jz_J X nL G Q m' lv (pc + 3) st') : W (xz_p X) (xz_l X) (xz_e X) (xz_R X) (xz_s X) (xz_m X) (xz_a X) (xz_b X) (xz_t X) (xz_c X) H locs 0 0 Q (F0 (xz_m X) pc ls st0) := by
  intro T hT X0
  obtain ⟨v, st₀, t, T', L, h0, X', hL, e1, e2, ⟨hv, hw, hz, hk⟩, go⟩ := hr T hT X0
  cases hv
  subst hst
  rw [h0] at hz hk
  obtain ⟨t2, a1, b1⟩ := kk T'.heap (locs ++ L) ls (by rw [e1]; exact hw.1)
    ⟨Nat.le_trans hS.1 (by rw [e1]; exact hz), fun q h1 h2 => by rw [e1, hk q (Nat.lt_of_lt_of_le h1 hS.1) h2]; exact hS.2.1 q h1 h2, fun q hq => by
      rcases List.mem_append.mp hq with h | h
      · exact hS.2.2 q h
      · exact hL q h⟩ hl T' rfl X'
  exact ⟨t2, go t2 a1, b1⟩
theorem cz_B {X : jz_X} {nL : Nat} {cc : ByteArray} {own : String} {ret : Option FieldType} {rm0 : Room} {G : jz_G} {cd : Cond} {y : MethodName} {bytes : ByteArray} {maxL n ix : Nat} {rt : Option FieldType} {rm : Room} (C : jz_C X nL cc own ret rm0 G) (hs : cz_S cd y bytes maxL rt n) (hR : rz_ok rm maxL rm0 = true) (hlink : Cond.methodLink own ix y ∈ lw_tbl) : CallB (xz_R X) (xz_s X) (xz_a X) own ix y bytes maxL rt (cd :: gw_tbl) rm 0 0 n := by
  obtain ⟨rfl, hc, hi, hy, hn⟩ := hs
  have hc2 : Cond.code y bytes maxL rt ∈ gw_tbl := gw_in hc (by first | rfl | simp [gw_ok, Cond.onTables, Cond.keeps, Cond.steady])
  have hR2 := rz_use hR
  rw [← C.2.2.2.2.2.2.2.2.2.1] at hR2
  refine ⟨hR2.1, hR2.2.1, hR2.2.2.1, hR2.2.2.2, pay_in C.2.2.2.2.1 (gw_good hc2), List.mem_cons_self, C.2.2.2.2.1 _ hc2, C.2.2.2.2.1 _ (gw_in hi (by first | rfl | simp [gw_ok, Cond.onTables, Cond.keeps, Cond.steady])), hy, fun sig h => ?_, C.2.2.2.2.1 _ (gw_in hlink (by first | rfl | simp [gw_ok, Cond.onTables, Cond.keeps, Cond.steady]))⟩
  rw [h] at hn
  exact (Option.some.inj hn).symm
theorem cz_N {X : jz_X} {nL : Nat} {cc : ByteArray} {own : String} {ret : Option FieldType} {rm0 : Room} {G : jz_G} {cd : Cond} {y : MethodName} {bytes : ByteArray} {maxL n ix : Nat} {rt : Option FieldType} {rm : Room} {host : String} (C : jz_C X nL cc own ret rm0 G) (hs : cz_S cd y bytes maxL rt n) (hR : rz_ok rm maxL rm0 = true) (hlink : Cond.methodLinkNest own ix y host ∈ lw_tbl) : va_CN (xz_R X) (xz_s X) (xz_a X) own ix y host bytes maxL rt (cd :: gw_tbl) rm 0 0 n := by
  obtain ⟨rfl, hc, hi, hy, hn⟩ := hs
  have hc2 : Cond.code y bytes maxL rt ∈ gw_tbl := gw_in hc (by first | rfl | simp [gw_ok, Cond.onTables, Cond.keeps, Cond.steady])
  have hR2 := rz_use hR
  rw [← C.2.2.2.2.2.2.2.2.2.1] at hR2
  exact va_cnB n C.2.2.2.2.1 (gw_good hc2) rfl hR2.1 hR2.2.1 (C.2.2.2.2.2.2.2.2.2.2 _ (nw_in hlink rfl)) (C.2.2.2.2.1 _ (gw_in hi (by first | rfl | simp [gw_ok, Cond.onTables, Cond.keeps, Cond.steady]))) ⟨hy.1, hy.2, hn⟩ ⟨hR2.2.2.1, hR2.2.2.2⟩
theorem cz_I {X : jz_X} {nL : Nat} {cc : ByteArray} {own : String} {ret : Option FieldType} {rm0 : Room} {G : jz_G} {y : MethodName} (C : jz_C X nL cc own ret rm0 G) (hv : cz_V y) : (Cond.instanceMethod y).before (xz_a X) (xz_s X) = true ∧ (Cond.selects y.cls y y).before (xz_a X) (xz_s X) = true := ⟨C.2.2.2.2.1 _ (gw_in hv.1 (by first | rfl | simp [gw_ok, Cond.onTables, Cond.keeps, Cond.steady])), C.2.2.2.2.1 _ (gw_in hv.2 (by first | rfl | simp [gw_ok, Cond.onTables, Cond.keeps, Cond.steady]))⟩
theorem jr_callV {X : jz_X} {nL : Nat} {cc : ByteArray} {own : String} {ret : Option FieldType} {rm0 : Room} {G : jz_G} {Q : State → Prop} {m : jz_M} {lv : List (Nat × Value)} {st : List Value} (pc : Nat) {k ci Nf : Nat} {T : u_T} {F : (Nat → Int32) → List Value} (As : List Value) {m' : jz_M} {ov : Option Value} {cd : Cond} {y : MethodName} {bytes : ByteArray} {maxL n ix : Nat} {rt : Option FieldType} {rm : Room} {st0 st' : List Value} (C : jz_C X nL cc own ret rm0 G) (d : decode cc pc = .ok (.invokevirtual ix, 3)) (hM : jz_m (xz_l X) y cd rm G (.ref (gz_ad G k) :: As) m ov m') (hs : cz_S cd y bytes maxL rt n) (hv : cz_V y) (hlink : Cond.methodLink own ix y ∈ lw_tbl) (hO : iz_O G k ci F) (hc : (gz_cl G)[ci]? = some (y.cls, T, Nf)) (hR : rz_ok rm maxL rm0 = true) (hn : As.length = n) (hst0 : st0 = As.reverse ++ .ref (gz_ad G k) :: st) (hwt : (st.map fun v => v.category).sum ≤ 8) (hst : ov.toList ++ st = st') (kk : jz_J X nL G Q m' lv (pc + 3) st') : jz_J X nL G Q m lv pc st0 := fun H locs ls hP hS hl => by
  refine jr_run hS hl (va_runV (As := As) (b := gz_ad G k) (rest := st) ⟨C.1, C.2.1, C.2.2.1, C.2.2.2.1, C.2.2.2.2.1⟩ hM ⟨cz_B C hs hR hlink, cz_I C hv⟩ ⟨jz_blind, va_recv C.2.2.2.2.2.1 hP hc (q0 := k) (ci := ci) (by rw [jz_w_at hO.1, hO.2]), fun U hU hW => ⟨rfl, by rw [hU]; exact hP, va_K.moved hW.alike C.2.2.2.2.2.1, nw_ok.warm hW C.2.2.2.2.2.2.2.2.2.2⟩⟩ rfl hn hl.1 hst0 (lv_room hwt) d ⟨Nat.zero_le _, Nat.zero_le _⟩) hst kk
theorem jr_callVN {X : jz_X} {nL : Nat} {cc : ByteArray} {own : String} {ret : Option FieldType} {rm0 : Room} {G : jz_G} {Q : State → Prop} {m : jz_M} {lv : List (Nat × Value)} {st : List Value} (pc : Nat) {k ci Nf : Nat} {T : u_T} {F : (Nat → Int32) → List Value} {host : String} (As : List Value) {m' : jz_M} {ov : Option Value} {cd : Cond} {y : MethodName} {bytes : ByteArray} {maxL n ix : Nat} {rt : Option FieldType} {rm : Room} {st0 st' : List Value} (C : jz_C X nL cc own ret rm0 G) (d : decode cc pc = .ok (.invokevirtual ix, 3)) (hM : jz_m (xz_l X) y cd rm G (.ref (gz_ad G k) :: As) m ov m') (hs : cz_S cd y bytes maxL rt n) (hv : cz_V y) (hlink : Cond.methodLinkNest own ix y host ∈ lw_tbl) (hO : iz_O G k ci F) (hc : (gz_cl G)[ci]? = some (y.cls, T, Nf)) (hR : rz_ok rm maxL rm0 = true) (hn : As.length = n) (hst0 : st0 = As.reverse ++ .ref (gz_ad G k) :: st) (hwt : (st.map fun v => v.category).sum ≤ 8) (hst : ov.toList ++ st = st') (kk : jz_J X nL G Q m' lv (pc + 3) st') : jz_J X nL G Q m lv pc st0 := fun H locs ls hP hS hl => by
  refine jr_run hS hl (va_runVN (As := As) (b := gz_ad G k) (rest := st) ⟨C.1, C.2.1, C.2.2.1, C.2.2.2.1, C.2.2.2.2.1⟩ hM ⟨cz_N C hs hR hlink, cz_I C hv⟩ ⟨jz_blind, va_recv C.2.2.2.2.2.1 hP hc (q0 := k) (ci := ci) (by rw [jz_w_at hO.1, hO.2]), fun U hU hW => ⟨rfl, by rw [hU]; exact hP, va_K.moved hW.alike C.2.2.2.2.2.1, nw_ok.warm hW C.2.2.2.2.2.2.2.2.2.2⟩⟩ rfl hn hl.1 hst0 (lv_room hwt) d ⟨Nat.zero_le _, Nat.zero_le _⟩) hst kk
theorem jr_callS {X : jz_X} {nL : Nat} {cc : ByteArray} {own : String} {ret : Option FieldType} {rm0 : Room} {G : jz_G} {Q : State → Prop} {m : jz_M} {lv : List (Nat × Value)} {st : List Value} (pc : Nat) (As : List Value) {m' : jz_M} {ov : Option Value} {cd : Cond} {y : MethodName} {bytes : ByteArray} {maxL n ix : Nat} {rt : Option FieldType} {rm : Room} {st0 st' : List Value} (C : jz_C X nL cc own ret rm0 G) (d : decode cc pc = .ok (.invokestatic ix, 3)) (hM : jz_m (xz_l X) y cd rm G As m ov m') (hs : cz_S cd y bytes maxL rt n) (hv : Cond.static y ∈ lw_tbl) (hlink : Cond.methodLink own ix y ∈ lw_tbl) (hR : rz_ok rm maxL rm0 = true) (hn : As.length = n) (hst0 : st0 = As.reverse ++ st) (hwt : (st.map fun v => v.category).sum ≤ 8) (hst : ov.toList ++ st = st') (kk : jz_J X nL G Q m' lv (pc + 3) st') : jz_J X nL G Q m lv pc st0 := fun H locs ls hP hS hl => by
  refine jr_run hS hl (va_runS (As := As) (rest := st) ⟨C.1, C.2.1, C.2.2.1, C.2.2.2.1, C.2.2.2.2.1⟩ hM ⟨cz_B C hs hR hlink, C.2.2.2.2.1 _ (gw_in hv (by first | rfl | simp [gw_ok, Cond.onTables, Cond.keeps, Cond.steady]))⟩ ⟨jz_blind, fun U hU hW => ⟨rfl, by rw [hU]; exact hP, va_K.moved hW.alike C.2.2.2.2.2.1, nw_ok.warm hW C.2.2.2.2.2.2.2.2.2.2⟩⟩ rfl hn hl.1 hst0 (lv_room hwt) d ⟨Nat.zero_le _, Nat.zero_le _⟩) hst kk
theorem jr_callSN {X : jz_X} {nL : Nat} {cc : ByteArray} {own : String} {ret : Option FieldType} {rm0 : Room} {G : jz_G} {Q : State → Prop} {m : jz_M} {lv : List (Nat × Value)} {st : List Value} (pc : Nat) {host : String} (As : List Value) {m' : jz_M} {ov : Option Value} {cd : Cond} {y : MethodName} {bytes : ByteArray} {maxL n ix : Nat} {rt : Option FieldType} {rm : Room} {st0 st' : List Value} (C : jz_C X nL cc own ret rm0 G) (d : decode cc pc = .ok (.invokestatic ix, 3)) (hM : jz_m (xz_l X) y cd rm G As m ov m') (hs : cz_S cd y bytes maxL rt n) (hv : Cond.static y ∈ lw_tbl) (hlink : Cond.methodLinkNest own ix y host ∈ lw_tbl) (hR : rz_ok rm maxL rm0 = true) (hn : As.length = n) (hst0 : st0 = As.reverse ++ st) (hwt : (st.map fun v => v.category).sum ≤ 8) (hst : ov.toList ++ st = st') (kk : jz_J X nL G Q m' lv (pc + 3) st') : jz_J X nL G Q m lv pc st0 := fun H locs ls hP hS hl => by
  refine jr_run hS hl (va_runSN (As := As) (rest := st) ⟨C.1, C.2.1, C.2.2.1, C.2.2.2.1, C.2.2.2.2.1⟩ hM ⟨cz_N C hs hR hlink, C.2.2.2.2.1 _ (gw_in hv (by first | rfl | simp [gw_ok, Cond.onTables, Cond.keeps, Cond.steady])), trivial⟩ ⟨jz_blind, fun U hU hW => ⟨rfl, by rw [hU]; exact hP, va_K.moved hW.alike C.2.2.2.2.2.1, nw_ok.warm hW C.2.2.2.2.2.2.2.2.2.2⟩⟩ rfl hn hl.1 hst0 (lv_room hwt) d ⟨Nat.zero_le _, Nat.zero_le _⟩) hst kk
theorem jr_tsOut {X : jz_X} {nL : Nat} {cc : ByteArray} {own : String} {ret : Option FieldType} {rm0 : Room} {G : jz_G} {Q : State → Prop} {m : jz_M} {lv : List (Nat × Value)} {st : List Value} (pc : Nat) {x : Int32} {dflt lo hi : Int} {offs : Array Int} {len : Nat} (tgt : Nat) (C : jz_C X nL cc own ret rm0 G) (d : decode cc pc = .ok (.tableswitch dflt lo hi offs, len)) (h : x.toInt < lo ∨ hi < x.toInt) (ht : (pc : Int) + dflt = (tgt : Int)) (k : jz_J X nL G Q m lv tgt st) : jz_J X nL G Q m lv pc (.int x :: st) := fun H locs ls hP hS hl => lv_tableOut C.1 C.2.1 d h ht (k H locs ls hP hS hl)
theorem jr_tsIn {X : jz_X} {nL : Nat} {cc : ByteArray} {own : String} {ret : Option FieldType} {rm0 : Room} {G : jz_G} {Q : State → Prop} {m : jz_M} {lv : List (Nat × Value)} {st : List Value} (pc : Nat) {x : Int32} {dflt lo hi off : Int} {offs : Array Int} {len : Nat} (tgt : Nat) (v : Int32) (C : jz_C X nL cc own ret rm0 G) (d : decode cc pc = .ok (.tableswitch dflt lo hi offs, len)) (hx : x = v) (h1 : ¬ v.toInt < lo) (h2 : ¬ hi < v.toInt) (ho : offs[(v.toInt - lo).toNat]? = some off) (ht : (pc : Int) + off = (tgt : Int)) (k : jz_J X nL G Q m lv tgt st) : jz_J X nL G Q m lv pc (.int x :: st) := fun H locs ls hP hS hl => by
  subst hx
  exact lv_tableIn C.1 C.2.1 d h1 h2 ho ht (k H locs ls hP hS hl)
theorem nb_0 : narrow .boolean (.int 0) = .int 0 := rfl
theorem nb_1 : narrow .boolean (.int 1) = .int 1 := rfl
def jz_max (x y : Int32) : Int32 := if x < y then y else x
theorem jr_max {X : jz_X} {nL : Nat} {cc : ByteArray} {own : String} {ret : Option FieldType} {rm0 : Room} {G : jz_G} {Q : State → Prop} {m : jz_M} {lv : List (Nat × Value)} {st : List Value} (pc : Nat) {x y : Int32} {ix : Nat} (C : jz_C X nL cc own ret rm0 G) (d : decode cc pc = .ok (.invokestatic ix, 3)) (h1 : Cond.methodLink own ix Lib.Math.max.name ∈ lw_tbl) (h2 : Cond.static Lib.Math.max.name ∈ lw_tbl) (h3 : Cond.initialized "java/lang/Math" ∈ lw_tbl) (h4 : Cond.code Lib.Math.max.name Lib.Math.max.code 2 (some .int) ∈ lw_tbl) (hf : 1 ≤ rm0.frames) (hwt : (st.map fun v => v.category).sum + 13 ≤ rm0.locals) (k : jz_J X nL G Q m lv (pc + 3) (.int (jz_max x y) :: st)) : jz_J X nL G Q m lv pc (.int y :: .int x :: st) := fun H locs ls hP hS hl => by
  have hR := C.2.2.2.2.2.2.2.2.2.1
  exact va_mmax C.1 C.2.1 (C.2.2.1.trans hl.1.symm) C.2.2.2.1 (C.2.2.2.2.1 _ (gw_in h1 (by first | rfl | simp [gw_ok, Cond.onTables, Cond.keeps, Cond.steady]))) (C.2.2.2.2.1 _ (gw_in h2 (by first | rfl | simp [gw_ok, Cond.onTables, Cond.keeps, Cond.steady]))) (C.2.2.2.2.1 _ (gw_in h3 (by first | rfl | simp [gw_ok, Cond.onTables, Cond.keeps, Cond.steady]))) (C.2.2.2.2.1 _ (gw_in h4 (by first | rfl | simp [gw_ok, Cond.onTables, Cond.keeps, Cond.steady]))) (by rw [hR]; exact hf) (by rw [hR]; exact hwt) (Nat.zero_le _) (Nat.zero_le _) d (k H locs ls hP hS hl)
def jz_bo (x : Int32) : Option Int32 := if x = 0 ∨ x = 1 then some x else none
theorem jz_bo_eq {x b : Int32} (h : jz_bo x = some b) : b = x := by
  unfold jz_bo at h
  by_cases hc : x = 0 ∨ x = 1
  · rw [if_pos hc] at h; exact (Option.some.inj h).symm
  · rw [if_neg hc] at h; cases h
theorem jz_bo_n {x b : Int32} (h : jz_bo x = some b) : narrow .boolean (.int b) = .int b ∧ fits .boolean (.int b) = true := by
  have e := jz_bo_eq h
  subst e
  unfold jz_bo at h
  by_cases hc : b = 0 ∨ b = 1
  · rcases hc with rfl | rfl <;> exact ⟨rfl, rfl⟩
  · rw [if_neg hc] at h; cases h
end
section
/-! names: classes, fields, methods, words (by program, out of the claim's tables and listing) -/
abbrev R_AR : String := "AreaRouters"
def T_AR : u_T := fun k => match k with
  | 0 => ("AreaRouters", "areas", "[I", true)
  | 1 => ("AreaRouters", "levelSets", "[I", true)
  | 2 => ("AreaRouters", "wiring", "LAreaRouters$Wiring;", true)
  | 3 => ("AreaRouters", "hearings", "[LAreaRouters$Hearing;", true)
  | 4 => ("AreaRouters", "bases", "[LAreaRouters$Base;", true)
  | 5 => ("AreaRouters", "draft", "LAreaRouters$Draft;", true)
  | _ => ("AreaRouters", "ways", "LAreaRouters$Ways;", true)
def ty_AR : Nat → FieldType := fun k => match k with
  | 0 => .array .int
  | 1 => .array .int
  | 2 => .object "AreaRouters$Wiring"
  | 3 => .array (.object "AreaRouters$Hearing")
  | 4 => .array (.object "AreaRouters$Base")
  | 5 => .object "AreaRouters$Draft"
  | _ => .object "AreaRouters$Ways"
theorem tn_AR : ∀ a, a < 7 → ∀ b, b < 7 → a ≠ b → (T_AR a).2.1 ≠ (T_AR b).2.1 := by decide +kernel
theorem tt_AR : ∀ k, k < 7 → parseFieldDescriptor (T_AR k).2.2.1 = some (ty_AR k) := by decide +kernel
theorem il_AR : ∀ w ∈ u_ws R_AR T_AR 7, w ∈ lw_tbl := by
  intro w hw
  have hz : u_ws R_AR T_AR 7 = [.laysFinal "AreaRouters" "AreaRouters" "areas" "[I", .laysFinal "AreaRouters" "AreaRouters" "levelSets" "[I", .laysFinal "AreaRouters" "AreaRouters" "wiring" "LAreaRouters$Wiring;", .laysFinal "AreaRouters" "AreaRouters" "hearings" "[LAreaRouters$Hearing;", .laysFinal "AreaRouters" "AreaRouters" "bases" "[LAreaRouters$Base;", .laysFinal "AreaRouters" "AreaRouters" "draft" "LAreaRouters$Draft;", .laysFinal "AreaRouters" "AreaRouters" "ways" "LAreaRouters$Ways;"] := by decide +kernel
  rw [hz] at hw
  simp only [List.mem_cons, List.not_mem_nil, or_false] at hw
  rcases hw with rfl | rfl | rfl | rfl | rfl | rfl | rfl
  · exact List.mem_of_getElem? (i := 235) (by decide +kernel)
  · exact List.mem_of_getElem? (i := 237) (by decide +kernel)
  · exact List.mem_of_getElem? (i := 239) (by decide +kernel)
  · exact List.mem_of_getElem? (i := 241) (by decide +kernel)
  · exact List.mem_of_getElem? (i := 243) (by decide +kernel)
  · exact List.mem_of_getElem? (i := 245) (by decide +kernel)
  · exact List.mem_of_getElem? (i := 247) (by decide +kernel)
theorem in_AR : ∀ w ∈ u_ws R_AR T_AR 7, w ∈ gw_tbl := fun w hw => gw_in (il_AR w hw) (by
  have hz : ∀ w ∈ u_ws R_AR T_AR 7, gw_ok w = true := by decide +kernel
  exact hz w hw)
abbrev R_Wi : String := "AreaRouters$Wiring"
def T_Wi : u_T := fun k => match k with
  | 0 => ("AreaRouters$Wiring", "metrics", "[I", true)
  | _ => ("AreaRouters$Wiring", "priorities", "[I", true)
def ty_Wi : Nat → FieldType := fun k => match k with
  | 0 => .array .int
  | _ => .array .int
theorem tn_Wi : ∀ a, a < 2 → ∀ b, b < 2 → a ≠ b → (T_Wi a).2.1 ≠ (T_Wi b).2.1 := by decide +kernel
theorem tt_Wi : ∀ k, k < 2 → parseFieldDescriptor (T_Wi k).2.2.1 = some (ty_Wi k) := by decide +kernel
theorem il_Wi : ∀ w ∈ u_ws R_Wi T_Wi 2, w ∈ lw_tbl := by
  intro w hw
  have hz : u_ws R_Wi T_Wi 2 = [.laysFinal "AreaRouters$Wiring" "AreaRouters$Wiring" "metrics" "[I", .laysFinal "AreaRouters$Wiring" "AreaRouters$Wiring" "priorities" "[I"] := by decide +kernel
  rw [hz] at hw
  simp only [List.mem_cons, List.not_mem_nil, or_false] at hw
  rcases hw with rfl | rfl
  · exact List.mem_of_getElem? (i := 126) (by decide +kernel)
  · exact List.mem_of_getElem? (i := 128) (by decide +kernel)
theorem in_Wi : ∀ w ∈ u_ws R_Wi T_Wi 2, w ∈ gw_tbl := fun w hw => gw_in (il_Wi w hw) (by
  have hz : ∀ w ∈ u_ws R_Wi T_Wi 2, gw_ok w = true := by decide +kernel
  exact hz w hw)
abbrev R_He : String := "AreaRouters$Hearing"
def T_He : u_T := fun k => match k with
  | 0 => ("AreaRouters$Hearing", "ticksLeft", "[I", true)
  | _ => ("AreaRouters$Hearing", "named", "[Z", true)
def ty_He : Nat → FieldType := fun k => match k with
  | 0 => .array .int
  | _ => .array .boolean
theorem tn_He : ∀ a, a < 2 → ∀ b, b < 2 → a ≠ b → (T_He a).2.1 ≠ (T_He b).2.1 := by decide +kernel
theorem tt_He : ∀ k, k < 2 → parseFieldDescriptor (T_He k).2.2.1 = some (ty_He k) := by decide +kernel
theorem il_He : ∀ w ∈ u_ws R_He T_He 2, w ∈ lw_tbl := by
  intro w hw
  have hz : u_ws R_He T_He 2 = [.laysFinal "AreaRouters$Hearing" "AreaRouters$Hearing" "ticksLeft" "[I", .laysFinal "AreaRouters$Hearing" "AreaRouters$Hearing" "named" "[Z"] := by decide +kernel
  rw [hz] at hw
  simp only [List.mem_cons, List.not_mem_nil, or_false] at hw
  rcases hw with rfl | rfl
  · exact List.mem_of_getElem? (i := 141) (by decide +kernel)
  · exact List.mem_of_getElem? (i := 143) (by decide +kernel)
theorem in_He : ∀ w ∈ u_ws R_He T_He 2, w ∈ gw_tbl := fun w hw => gw_in (il_He w hw) (by
  have hz : ∀ w ∈ u_ws R_He T_He 2, gw_ok w = true := by decide +kernel
  exact hz w hw)
abbrev R_Dr : String := "AreaRouters$Draft"
def T_Dr : u_T := fun k => match k with
  | 0 => ("AreaRouters$Draft", "links", "[I", true)
  | 1 => ("AreaRouters$Draft", "linkCount", "I", false)
  | 2 => ("AreaRouters$Draft", "area", "I", false)
  | _ => ("AreaRouters$Draft", "exit", "Z", false)
def ty_Dr : Nat → FieldType := fun k => match k with
  | 0 => .array .int
  | 1 => .int
  | 2 => .int
  | _ => .boolean
theorem tn_Dr : ∀ a, a < 4 → ∀ b, b < 4 → a ≠ b → (T_Dr a).2.1 ≠ (T_Dr b).2.1 := by decide +kernel
theorem tt_Dr : ∀ k, k < 4 → parseFieldDescriptor (T_Dr k).2.2.1 = some (ty_Dr k) := by decide +kernel
theorem il_Dr : ∀ w ∈ u_ws R_Dr T_Dr 4, w ∈ lw_tbl := by
  intro w hw
  have hz : u_ws R_Dr T_Dr 4 = [.laysFinal "AreaRouters$Draft" "AreaRouters$Draft" "links" "[I", .lays "AreaRouters$Draft" "AreaRouters$Draft" "linkCount" "I", .lays "AreaRouters$Draft" "AreaRouters$Draft" "area" "I", .lays "AreaRouters$Draft" "AreaRouters$Draft" "exit" "Z"] := by decide +kernel
  rw [hz] at hw
  simp only [List.mem_cons, List.not_mem_nil, or_false] at hw
  rcases hw with rfl | rfl | rfl | rfl
  · exact List.mem_of_getElem? (i := 203) (by decide +kernel)
  · exact List.mem_of_getElem? (i := 205) (by decide +kernel)
  · exact List.mem_of_getElem? (i := 207) (by decide +kernel)
  · exact List.mem_of_getElem? (i := 209) (by decide +kernel)
theorem in_Dr : ∀ w ∈ u_ws R_Dr T_Dr 4, w ∈ gw_tbl := fun w hw => gw_in (il_Dr w hw) (by
  have hz : ∀ w ∈ u_ws R_Dr T_Dr 4, gw_ok w = true := by decide +kernel
  exact hz w hw)
abbrev R_Ba : String := "AreaRouters$Base"
def T_Ba : u_T := fun k => match k with
  | 0 => ("AreaRouters$Base", "sequences", "[I", true)
  | 1 => ("AreaRouters$Base", "greatest", "[I", true)
  | 2 => ("AreaRouters$Base", "lives", "[I", true)
  | 3 => ("AreaRouters$Base", "ticksAtRest", "[I", true)
  | 4 => ("AreaRouters$Base", "exits", "[Z", true)
  | 5 => ("AreaRouters$Base", "areas", "[I", true)
  | 6 => ("AreaRouters$Base", "linkCounts", "[I", true)
  | 7 => ("AreaRouters$Base", "links", "[I", true)
  | 8 => ("AreaRouters$Base", "due", "[I", true)
  | _ => ("AreaRouters$Base", "asked", "[I", true)
def ty_Ba : Nat → FieldType := fun k => match k with
  | 0 => .array .int
  | 1 => .array .int
  | 2 => .array .int
  | 3 => .array .int
  | 4 => .array .boolean
  | 5 => .array .int
  | 6 => .array .int
  | 7 => .array .int
  | 8 => .array .int
  | _ => .array .int
theorem tn_Ba : ∀ a, a < 10 → ∀ b, b < 10 → a ≠ b → (T_Ba a).2.1 ≠ (T_Ba b).2.1 := by decide +kernel
theorem tt_Ba : ∀ k, k < 10 → parseFieldDescriptor (T_Ba k).2.2.1 = some (ty_Ba k) := by decide +kernel
theorem il_Ba : ∀ w ∈ u_ws R_Ba T_Ba 10, w ∈ lw_tbl := by
  intro w hw
  have hz : u_ws R_Ba T_Ba 10 = [.laysFinal "AreaRouters$Base" "AreaRouters$Base" "sequences" "[I", .laysFinal "AreaRouters$Base" "AreaRouters$Base" "greatest" "[I", .laysFinal "AreaRouters$Base" "AreaRouters$Base" "lives" "[I", .laysFinal "AreaRouters$Base" "AreaRouters$Base" "ticksAtRest" "[I", .laysFinal "AreaRouters$Base" "AreaRouters$Base" "exits" "[Z", .laysFinal "AreaRouters$Base" "AreaRouters$Base" "areas" "[I", .laysFinal "AreaRouters$Base" "AreaRouters$Base" "linkCounts" "[I", .laysFinal "AreaRouters$Base" "AreaRouters$Base" "links" "[I", .laysFinal "AreaRouters$Base" "AreaRouters$Base" "due" "[I", .laysFinal "AreaRouters$Base" "AreaRouters$Base" "asked" "[I"] := by decide +kernel
  rw [hz] at hw
  simp only [List.mem_cons, List.not_mem_nil, or_false] at hw
  rcases hw with rfl | rfl | rfl | rfl | rfl | rfl | rfl | rfl | rfl | rfl
  · exact List.mem_of_getElem? (i := 167) (by decide +kernel)
  · exact List.mem_of_getElem? (i := 169) (by decide +kernel)
  · exact List.mem_of_getElem? (i := 171) (by decide +kernel)
  · exact List.mem_of_getElem? (i := 173) (by decide +kernel)
  · exact List.mem_of_getElem? (i := 175) (by decide +kernel)
  · exact List.mem_of_getElem? (i := 177) (by decide +kernel)
  · exact List.mem_of_getElem? (i := 179) (by decide +kernel)
  · exact List.mem_of_getElem? (i := 181) (by decide +kernel)
  · exact List.mem_of_getElem? (i := 183) (by decide +kernel)
  · exact List.mem_of_getElem? (i := 185) (by decide +kernel)
theorem in_Ba : ∀ w ∈ u_ws R_Ba T_Ba 10, w ∈ gw_tbl := fun w hw => gw_in (il_Ba w hw) (by
  have hz : ∀ w ∈ u_ws R_Ba T_Ba 10, gw_ok w = true := by decide +kernel
  exact hz w hw)
abbrev R_Wa : String := "AreaRouters$Ways"
def T_Wa : u_T := fun k => match k with
  | 0 => ("AreaRouters$Ways", "costs", "[I", true)
  | 1 => ("AreaRouters$Ways", "firstHops", "[I", true)
  | _ => ("AreaRouters$Ways", "settled", "[Z", true)
def ty_Wa : Nat → FieldType := fun k => match k with
  | 0 => .array .int
  | 1 => .array .int
  | _ => .array .boolean
theorem tn_Wa : ∀ a, a < 3 → ∀ b, b < 3 → a ≠ b → (T_Wa a).2.1 ≠ (T_Wa b).2.1 := by decide +kernel
theorem tt_Wa : ∀ k, k < 3 → parseFieldDescriptor (T_Wa k).2.2.1 = some (ty_Wa k) := by decide +kernel
theorem il_Wa : ∀ w ∈ u_ws R_Wa T_Wa 3, w ∈ lw_tbl := by
  intro w hw
  have hz : u_ws R_Wa T_Wa 3 = [.laysFinal "AreaRouters$Ways" "AreaRouters$Ways" "costs" "[I", .laysFinal "AreaRouters$Ways" "AreaRouters$Ways" "firstHops" "[I", .laysFinal "AreaRouters$Ways" "AreaRouters$Ways" "settled" "[Z"] := by decide +kernel
  rw [hz] at hw
  simp only [List.mem_cons, List.not_mem_nil, or_false] at hw
  rcases hw with rfl | rfl | rfl
  · exact List.mem_of_getElem? (i := 221) (by decide +kernel)
  · exact List.mem_of_getElem? (i := 223) (by decide +kernel)
  · exact List.mem_of_getElem? (i := 225) (by decide +kernel)
theorem in_Wa : ∀ w ∈ u_ws R_Wa T_Wa 3, w ∈ gw_tbl := fun w hw => gw_in (il_Wa w hw) (by
  have hz : ∀ w ∈ u_ws R_Wa T_Wa 3, gw_ok w = true := by decide +kernel
  exact hz w hw)
abbrev R_Mo : String := "AreaRoutersModel"
def T_Mo : u_T := fun k => match k with
  | 0 => ("AreaRoutersModel", "thrown", "I", false)
  | 1 => ("AreaRoutersModel", "area", "[I", true)
  | 2 => ("AreaRoutersModel", "levels", "[I", true)
  | 3 => ("AreaRoutersModel", "placed", "[Z", true)
  | 4 => ("AreaRoutersModel", "metric", "[I", true)
  | 5 => ("AreaRoutersModel", "priority", "[I", true)
  | 6 => ("AreaRoutersModel", "heard", "[I", true)
  | 7 => ("AreaRoutersModel", "named", "[Z", true)
  | 8 => ("AreaRoutersModel", "sequence", "[I", true)
  | 9 => ("AreaRoutersModel", "most", "[I", true)
  | 10 => ("AreaRoutersModel", "life", "[I", true)
  | 11 => ("AreaRoutersModel", "gone", "[I", true)
  | 12 => ("AreaRoutersModel", "exit", "[Z", true)
  | 13 => ("AreaRoutersModel", "where", "[I", true)
  | 14 => ("AreaRoutersModel", "many", "[I", true)
  | 15 => ("AreaRoutersModel", "link", "[I", true)
  | 16 => ("AreaRoutersModel", "due", "[I", true)
  | 17 => ("AreaRoutersModel", "asked", "[I", true)
  | 18 => ("AreaRoutersModel", "count", "I", false)
  | 19 => ("AreaRoutersModel", "now", "[I", true)
  | 20 => ("AreaRoutersModel", "cost", "[I", true)
  | _ => ("AreaRoutersModel", "hops", "[I", true)
def ty_Mo : Nat → FieldType := fun k => match k with
  | 0 => .int
  | 1 => .array .int
  | 2 => .array .int
  | 3 => .array .boolean
  | 4 => .array .int
  | 5 => .array .int
  | 6 => .array .int
  | 7 => .array .boolean
  | 8 => .array .int
  | 9 => .array .int
  | 10 => .array .int
  | 11 => .array .int
  | 12 => .array .boolean
  | 13 => .array .int
  | 14 => .array .int
  | 15 => .array .int
  | 16 => .array .int
  | 17 => .array .int
  | 18 => .int
  | 19 => .array .int
  | 20 => .array .int
  | _ => .array .int
theorem tn_Mo : ∀ a, a < 22 → ∀ b, b < 22 → a ≠ b → (T_Mo a).2.1 ≠ (T_Mo b).2.1 := by decide +kernel
theorem tt_Mo : ∀ k, k < 22 → parseFieldDescriptor (T_Mo k).2.2.1 = some (ty_Mo k) := by decide +kernel
theorem il_Mo : ∀ w ∈ u_ws R_Mo T_Mo 22, w ∈ lw_tbl := by
  intro w hw
  have hz : u_ws R_Mo T_Mo 22 = [.lays "AreaRoutersModel" "AreaRoutersModel" "thrown" "I", .laysFinal "AreaRoutersModel" "AreaRoutersModel" "area" "[I", .laysFinal "AreaRoutersModel" "AreaRoutersModel" "levels" "[I", .laysFinal "AreaRoutersModel" "AreaRoutersModel" "placed" "[Z", .laysFinal "AreaRoutersModel" "AreaRoutersModel" "metric" "[I", .laysFinal "AreaRoutersModel" "AreaRoutersModel" "priority" "[I", .laysFinal "AreaRoutersModel" "AreaRoutersModel" "heard" "[I", .laysFinal "AreaRoutersModel" "AreaRoutersModel" "named" "[Z", .laysFinal "AreaRoutersModel" "AreaRoutersModel" "sequence" "[I", .laysFinal "AreaRoutersModel" "AreaRoutersModel" "most" "[I", .laysFinal "AreaRoutersModel" "AreaRoutersModel" "life" "[I", .laysFinal "AreaRoutersModel" "AreaRoutersModel" "gone" "[I", .laysFinal "AreaRoutersModel" "AreaRoutersModel" "exit" "[Z", .laysFinal "AreaRoutersModel" "AreaRoutersModel" "where" "[I", .laysFinal "AreaRoutersModel" "AreaRoutersModel" "many" "[I", .laysFinal "AreaRoutersModel" "AreaRoutersModel" "link" "[I", .laysFinal "AreaRoutersModel" "AreaRoutersModel" "due" "[I", .laysFinal "AreaRoutersModel" "AreaRoutersModel" "asked" "[I", .lays "AreaRoutersModel" "AreaRoutersModel" "count" "I", .laysFinal "AreaRoutersModel" "AreaRoutersModel" "now" "[I", .laysFinal "AreaRoutersModel" "AreaRoutersModel" "cost" "[I", .laysFinal "AreaRoutersModel" "AreaRoutersModel" "hops" "[I"] := by decide +kernel
  rw [hz] at hw
  simp only [List.mem_cons, List.not_mem_nil, or_false] at hw
  rcases hw with rfl | rfl | rfl | rfl | rfl | rfl | rfl | rfl | rfl | rfl | rfl | rfl | rfl | rfl | rfl | rfl | rfl | rfl | rfl | rfl | rfl | rfl
  · exact List.mem_of_getElem? (i := 741) (by decide +kernel)
  · exact List.mem_of_getElem? (i := 743) (by decide +kernel)
  · exact List.mem_of_getElem? (i := 745) (by decide +kernel)
  · exact List.mem_of_getElem? (i := 747) (by decide +kernel)
  · exact List.mem_of_getElem? (i := 749) (by decide +kernel)
  · exact List.mem_of_getElem? (i := 751) (by decide +kernel)
  · exact List.mem_of_getElem? (i := 753) (by decide +kernel)
  · exact List.mem_of_getElem? (i := 755) (by decide +kernel)
  · exact List.mem_of_getElem? (i := 757) (by decide +kernel)
  · exact List.mem_of_getElem? (i := 759) (by decide +kernel)
  · exact List.mem_of_getElem? (i := 761) (by decide +kernel)
  · exact List.mem_of_getElem? (i := 763) (by decide +kernel)
  · exact List.mem_of_getElem? (i := 765) (by decide +kernel)
  · exact List.mem_of_getElem? (i := 767) (by decide +kernel)
  · exact List.mem_of_getElem? (i := 769) (by decide +kernel)
  · exact List.mem_of_getElem? (i := 771) (by decide +kernel)
  · exact List.mem_of_getElem? (i := 773) (by decide +kernel)
  · exact List.mem_of_getElem? (i := 775) (by decide +kernel)
  · exact List.mem_of_getElem? (i := 777) (by decide +kernel)
  · exact List.mem_of_getElem? (i := 779) (by decide +kernel)
  · exact List.mem_of_getElem? (i := 781) (by decide +kernel)
  · exact List.mem_of_getElem? (i := 783) (by decide +kernel)
theorem in_Mo : ∀ w ∈ u_ws R_Mo T_Mo 22, w ∈ gw_tbl := fun w hw => gw_in (il_Mo w hw) (by
  have hz : ∀ w ∈ u_ws R_Mo T_Mo 22, gw_ok w = true := by decide +kernel
  exact hz w hw)
abbrev kz_cl : List vw_C := [(R_AR, T_AR, 7), (R_Wi, T_Wi, 2), (R_He, T_He, 2), (R_Dr, T_Dr, 4), (R_Ba, T_Ba, 10), (R_Wa, T_Wa, 3), (R_Mo, T_Mo, 22)]
abbrev b_AR_isRouter : ByteArray := prog_1_method_16_code
abbrev y_AR_isRouter : MethodName := ⟨"AreaRouters", "isRouter", "(I)Z"⟩
theorem sz_AR_isRouter : cz_S (.code y_AR_isRouter b_AR_isRouter 1 (some .boolean)) y_AR_isRouter b_AR_isRouter 1 (some .boolean) 1 := ⟨rfl, List.mem_of_getElem? (i := 256) (by decide +kernel), List.mem_of_getElem? (i := 96) (by decide +kernel), by decide +kernel, by decide +kernel⟩
theorem tz_AR_isRouter : Cond.static y_AR_isRouter ∈ lw_tbl := List.mem_of_getElem? (i := 255) (by decide +kernel)
abbrev b_Wi_isAttached : ByteArray := prog_6_method_5_code
abbrev y_Wi_isAttached : MethodName := ⟨"AreaRouters$Wiring", "isAttached", "(II)Z"⟩
theorem sz_Wi_isAttached : cz_S (.code y_Wi_isAttached b_Wi_isAttached 3 (some .boolean)) y_Wi_isAttached b_Wi_isAttached 3 (some .boolean) 2 := ⟨rfl, List.mem_of_getElem? (i := 264) (by decide +kernel), List.mem_of_getElem? (i := 97) (by decide +kernel), by decide +kernel, by decide +kernel⟩
theorem tz_Wi_isAttached : cz_V y_Wi_isAttached := ⟨List.mem_of_getElem? (i := 263) (by decide +kernel), List.mem_of_getElem? (i := 1) (by decide +kernel)⟩
abbrev b_Wi_circuitsOf : ByteArray := prog_6_method_8_code
abbrev y_Wi_circuitsOf : MethodName := ⟨"AreaRouters$Wiring", "circuitsOf", "(I)I"⟩
theorem sz_Wi_circuitsOf : cz_S (.code y_Wi_circuitsOf b_Wi_circuitsOf 4 (some .int)) y_Wi_circuitsOf b_Wi_circuitsOf 4 (some .int) 1 := ⟨rfl, List.mem_of_getElem? (i := 260) (by decide +kernel), List.mem_of_getElem? (i := 97) (by decide +kernel), by decide +kernel, by decide +kernel⟩
theorem tz_Wi_circuitsOf : cz_V y_Wi_circuitsOf := ⟨List.mem_of_getElem? (i := 259) (by decide +kernel), List.mem_of_getElem? (i := 0) (by decide +kernel)⟩
abbrev b_AR_place : ByteArray := prog_1_method_2_code
abbrev y_AR_place : MethodName := ⟨"AreaRouters", "place", "(III)Z"⟩
theorem sz_AR_place : cz_S (.code y_AR_place b_AR_place 4 (some .boolean)) y_AR_place b_AR_place 4 (some .boolean) 3 := ⟨rfl, List.mem_of_getElem? (i := 253) (by decide +kernel), List.mem_of_getElem? (i := 96) (by decide +kernel), by decide +kernel, by decide +kernel⟩
theorem tz_AR_place : cz_V y_AR_place := ⟨List.mem_of_getElem? (i := 251) (by decide +kernel), List.mem_of_getElem? (i := 252) (by decide +kernel)⟩
abbrev b_AR_isCircuit : ByteArray := prog_1_method_17_code
abbrev y_AR_isCircuit : MethodName := ⟨"AreaRouters", "isCircuit", "(I)Z"⟩
theorem sz_AR_isCircuit : cz_S (.code y_AR_isCircuit b_AR_isCircuit 1 (some .boolean)) y_AR_isCircuit b_AR_isCircuit 1 (some .boolean) 1 := ⟨rfl, List.mem_of_getElem? (i := 271) (by decide +kernel), List.mem_of_getElem? (i := 96) (by decide +kernel), by decide +kernel, by decide +kernel⟩
theorem tz_AR_isCircuit : Cond.static y_AR_isCircuit ∈ lw_tbl := List.mem_of_getElem? (i := 270) (by decide +kernel)
abbrev b_Wi_countOn : ByteArray := prog_6_method_6_code
abbrev y_Wi_countOn : MethodName := ⟨"AreaRouters$Wiring", "countOn", "(I)I"⟩
theorem sz_Wi_countOn : cz_S (.code y_Wi_countOn b_Wi_countOn 4 (some .int)) y_Wi_countOn b_Wi_countOn 4 (some .int) 1 := ⟨rfl, List.mem_of_getElem? (i := 276) (by decide +kernel), List.mem_of_getElem? (i := 97) (by decide +kernel), by decide +kernel, by decide +kernel⟩
theorem tz_Wi_countOn : cz_V y_Wi_countOn := ⟨List.mem_of_getElem? (i := 275) (by decide +kernel), List.mem_of_getElem? (i := 2) (by decide +kernel)⟩
abbrev b_Wi_join : ByteArray := prog_6_method_2_code
abbrev y_Wi_join : MethodName := ⟨"AreaRouters$Wiring", "join", "(IIII)V"⟩
theorem sz_Wi_join : cz_S (.code y_Wi_join b_Wi_join 5 none) y_Wi_join b_Wi_join 5 none 4 := ⟨rfl, List.mem_of_getElem? (i := 280) (by decide +kernel), List.mem_of_getElem? (i := 97) (by decide +kernel), by decide +kernel, by decide +kernel⟩
theorem tz_Wi_join : cz_V y_Wi_join := ⟨List.mem_of_getElem? (i := 279) (by decide +kernel), List.mem_of_getElem? (i := 3) (by decide +kernel)⟩
abbrev b_AR_attach : ByteArray := prog_1_method_3_code
abbrev y_AR_attach : MethodName := ⟨"AreaRouters", "attach", "(IIII)Z"⟩
theorem sz_AR_attach : cz_S (.code y_AR_attach b_AR_attach 5 (some .boolean)) y_AR_attach b_AR_attach 5 (some .boolean) 4 := ⟨rfl, List.mem_of_getElem? (i := 268) (by decide +kernel), List.mem_of_getElem? (i := 96) (by decide +kernel), by decide +kernel, by decide +kernel⟩
theorem tz_AR_attach : cz_V y_AR_attach := ⟨List.mem_of_getElem? (i := 266) (by decide +kernel), List.mem_of_getElem? (i := 267) (by decide +kernel)⟩
abbrev b_AR_checkSender : ByteArray := prog_1_method_27_code
abbrev y_AR_checkSender : MethodName := ⟨"AreaRouters", "checkSender", "(II)V"⟩
theorem sz_AR_checkSender : cz_S (.code y_AR_checkSender b_AR_checkSender 3 none) y_AR_checkSender b_AR_checkSender 3 none 2 := ⟨rfl, List.mem_of_getElem? (i := 442) (by decide +kernel), List.mem_of_getElem? (i := 96) (by decide +kernel), by decide +kernel, by decide +kernel⟩
theorem tz_AR_checkSender : cz_V y_AR_checkSender := ⟨List.mem_of_getElem? (i := 441) (by decide +kernel), List.mem_of_getElem? (i := 29) (by decide +kernel)⟩
abbrev b_AR_isMeant : ByteArray := prog_1_method_20_code
abbrev y_AR_isMeant : MethodName := ⟨"AreaRouters", "isMeant", "(II)Z"⟩
theorem sz_AR_isMeant : cz_S (.code y_AR_isMeant b_AR_isMeant 2 (some .boolean)) y_AR_isMeant b_AR_isMeant 2 (some .boolean) 2 := ⟨rfl, List.mem_of_getElem? (i := 529) (by decide +kernel), List.mem_of_getElem? (i := 96) (by decide +kernel), by decide +kernel, by decide +kernel⟩
theorem tz_AR_isMeant : Cond.static y_AR_isMeant ∈ lw_tbl := List.mem_of_getElem? (i := 528) (by decide +kernel)
abbrev b_AR_isLevel : ByteArray := prog_1_method_18_code
abbrev y_AR_isLevel : MethodName := ⟨"AreaRouters", "isLevel", "(I)Z"⟩
theorem sz_AR_isLevel : cz_S (.code y_AR_isLevel b_AR_isLevel 1 (some .boolean)) y_AR_isLevel b_AR_isLevel 1 (some .boolean) 1 := ⟨rfl, List.mem_of_getElem? (i := 319) (by decide +kernel), List.mem_of_getElem? (i := 96) (by decide +kernel), by decide +kernel, by decide +kernel⟩
theorem tz_AR_isLevel : Cond.static y_AR_isLevel ∈ lw_tbl := List.mem_of_getElem? (i := 318) (by decide +kernel)
abbrev b_AR_hasLevel : ByteArray := prog_1_method_24_code
abbrev y_AR_hasLevel : MethodName := ⟨"AreaRouters", "hasLevel", "(II)Z"⟩
theorem sz_AR_hasLevel : cz_S (.code y_AR_hasLevel b_AR_hasLevel 3 (some .boolean)) y_AR_hasLevel b_AR_hasLevel 3 (some .boolean) 2 := ⟨rfl, List.mem_of_getElem? (i := 335) (by decide +kernel), List.mem_of_getElem? (i := 96) (by decide +kernel), by decide +kernel, by decide +kernel⟩
theorem tz_AR_hasLevel : cz_V y_AR_hasLevel := ⟨List.mem_of_getElem? (i := 334) (by decide +kernel), List.mem_of_getElem? (i := 13) (by decide +kernel)⟩
abbrev b_AR_hearingAt : ByteArray := prog_1_method_26_code
abbrev y_AR_hearingAt : MethodName := ⟨"AreaRouters", "hearingAt", "(I)LAreaRouters$Hearing;"⟩
theorem sz_AR_hearingAt : cz_S (.code y_AR_hearingAt b_AR_hearingAt 2 (some (.object "AreaRouters$Hearing"))) y_AR_hearingAt b_AR_hearingAt 2 (some (.object "AreaRouters$Hearing")) 1 := ⟨rfl, List.mem_of_getElem? (i := 323) (by decide +kernel), List.mem_of_getElem? (i := 96) (by decide +kernel), by decide +kernel, by decide +kernel⟩
theorem tz_AR_hearingAt : cz_V y_AR_hearingAt := ⟨List.mem_of_getElem? (i := 322) (by decide +kernel), List.mem_of_getElem? (i := 11) (by decide +kernel)⟩
abbrev b_He_isHeard : ByteArray := prog_4_method_3_code
abbrev y_He_isHeard : MethodName := ⟨"AreaRouters$Hearing", "isHeard", "(III)Z"⟩
theorem sz_He_isHeard : cz_S (.code y_He_isHeard b_He_isHeard 4 (some .boolean)) y_He_isHeard b_He_isHeard 4 (some .boolean) 3 := ⟨rfl, List.mem_of_getElem? (i := 537) (by decide +kernel), List.mem_of_getElem? (i := 98) (by decide +kernel), by decide +kernel, by decide +kernel⟩
theorem tz_He_isHeard : cz_V y_He_isHeard := ⟨List.mem_of_getElem? (i := 536) (by decide +kernel), List.mem_of_getElem? (i := 32) (by decide +kernel)⟩
abbrev b_He_note : ByteArray := prog_4_method_2_code
abbrev y_He_note : MethodName := ⟨"AreaRouters$Hearing", "note", "(IIIZ)V"⟩
theorem sz_He_note : cz_S (.code y_He_note b_He_note 6 none) y_He_note b_He_note 6 none 4 := ⟨rfl, List.mem_of_getElem? (i := 541) (by decide +kernel), List.mem_of_getElem? (i := 98) (by decide +kernel), by decide +kernel, by decide +kernel⟩
theorem tz_He_note : cz_V y_He_note := ⟨List.mem_of_getElem? (i := 540) (by decide +kernel), List.mem_of_getElem? (i := 33) (by decide +kernel)⟩
abbrev b_AR_noteHello : ByteArray := prog_1_method_29_code
abbrev y_AR_noteHello : MethodName := ⟨"AreaRouters", "noteHello", "(III)V"⟩
theorem sz_AR_noteHello : cz_S (.code y_AR_noteHello b_AR_noteHello 7 none) y_AR_noteHello b_AR_noteHello 7 none 3 := ⟨rfl, List.mem_of_getElem? (i := 533) (by decide +kernel), List.mem_of_getElem? (i := 96) (by decide +kernel), by decide +kernel, by decide +kernel⟩
theorem tz_AR_noteHello : cz_V y_AR_noteHello := ⟨List.mem_of_getElem? (i := 532) (by decide +kernel), List.mem_of_getElem? (i := 31) (by decide +kernel)⟩
abbrev b_AR_hello : ByteArray := prog_1_method_4_code
abbrev y_AR_hello : MethodName := ⟨"AreaRouters", "hello", "(III)I"⟩
theorem sz_AR_hello : cz_S (.code y_AR_hello b_AR_hello 6 (some .int)) y_AR_hello b_AR_hello 6 (some .int) 3 := ⟨rfl, List.mem_of_getElem? (i := 438) (by decide +kernel), List.mem_of_getElem? (i := 96) (by decide +kernel), by decide +kernel, by decide +kernel⟩
theorem tz_AR_hello : cz_V y_AR_hello := ⟨List.mem_of_getElem? (i := 436) (by decide +kernel), List.mem_of_getElem? (i := 437) (by decide +kernel)⟩
abbrev b_AR_checkLevel : ByteArray := prog_1_method_28_code
abbrev y_AR_checkLevel : MethodName := ⟨"AreaRouters", "checkLevel", "(II)V"⟩
theorem sz_AR_checkLevel : cz_S (.code y_AR_checkLevel b_AR_checkLevel 3 none) y_AR_checkLevel b_AR_checkLevel 3 none 2 := ⟨rfl, List.mem_of_getElem? (i := 553) (by decide +kernel), List.mem_of_getElem? (i := 96) (by decide +kernel), by decide +kernel, by decide +kernel⟩
theorem tz_AR_checkLevel : cz_V y_AR_checkLevel := ⟨List.mem_of_getElem? (i := 552) (by decide +kernel), List.mem_of_getElem? (i := 34) (by decide +kernel)⟩
abbrev b_AR_baseOf : ByteArray := prog_1_method_25_code
abbrev y_AR_baseOf : MethodName := ⟨"AreaRouters", "baseOf", "(II)LAreaRouters$Base;"⟩
theorem sz_AR_baseOf : cz_S (.code y_AR_baseOf b_AR_baseOf 3 (some (.object "AreaRouters$Base"))) y_AR_baseOf b_AR_baseOf 3 (some (.object "AreaRouters$Base")) 2 := ⟨rfl, List.mem_of_getElem? (i := 292) (by decide +kernel), List.mem_of_getElem? (i := 96) (by decide +kernel), by decide +kernel, by decide +kernel⟩
theorem tz_AR_baseOf : cz_V y_AR_baseOf := ⟨List.mem_of_getElem? (i := 291) (by decide +kernel), List.mem_of_getElem? (i := 5) (by decide +kernel)⟩
abbrev b_Ba_isDue : ByteArray := prog_2_method_5_code
abbrev y_Ba_isDue : MethodName := ⟨"AreaRouters$Base", "isDue", "(II)Z"⟩
theorem sz_Ba_isDue : cz_S (.code y_Ba_isDue b_Ba_isDue 3 (some .boolean)) y_Ba_isDue b_Ba_isDue 3 (some .boolean) 2 := ⟨rfl, List.mem_of_getElem? (i := 573) (by decide +kernel), List.mem_of_getElem? (i := 99) (by decide +kernel), by decide +kernel, by decide +kernel⟩
theorem tz_Ba_isDue : cz_V y_Ba_isDue := ⟨List.mem_of_getElem? (i := 572) (by decide +kernel), List.mem_of_getElem? (i := 35) (by decide +kernel)⟩
abbrev b_He_isMutual : ByteArray := prog_4_method_4_code
abbrev y_He_isMutual : MethodName := ⟨"AreaRouters$Hearing", "isMutual", "(III)Z"⟩
theorem sz_He_isMutual : cz_S (.code y_He_isMutual b_He_isMutual 5 (some .boolean)) y_He_isMutual b_He_isMutual 5 (some .boolean) 3 := ⟨rfl, List.mem_of_getElem? (i := 327) (by decide +kernel), List.mem_of_getElem? (i := 98) (by decide +kernel), by decide +kernel, by decide +kernel⟩
theorem tz_He_isMutual : cz_V y_He_isMutual := ⟨List.mem_of_getElem? (i := 326) (by decide +kernel), List.mem_of_getElem? (i := 12) (by decide +kernel)⟩
abbrev b_AR_isReached : ByteArray := prog_1_method_30_code
abbrev y_AR_isReached : MethodName := ⟨"AreaRouters", "isReached", "(IIIII)Z"⟩
theorem sz_AR_isReached : cz_S (.code y_AR_isReached b_AR_isReached 6 (some .boolean)) y_AR_isReached b_AR_isReached 6 (some .boolean) 5 := ⟨rfl, List.mem_of_getElem? (i := 577) (by decide +kernel), List.mem_of_getElem? (i := 96) (by decide +kernel), by decide +kernel, by decide +kernel⟩
theorem tz_AR_isReached : cz_V y_AR_isReached := ⟨List.mem_of_getElem? (i := 576) (by decide +kernel), List.mem_of_getElem? (i := 36) (by decide +kernel)⟩
abbrev b_Ba_isAlive : ByteArray := prog_2_method_3_code
abbrev y_Ba_isAlive : MethodName := ⟨"AreaRouters$Base", "isAlive", "(I)Z"⟩
theorem sz_Ba_isAlive : cz_S (.code y_Ba_isAlive b_Ba_isAlive 2 (some .boolean)) y_Ba_isAlive b_Ba_isAlive 2 (some .boolean) 1 := ⟨rfl, List.mem_of_getElem? (i := 300) (by decide +kernel), List.mem_of_getElem? (i := 99) (by decide +kernel), by decide +kernel, by decide +kernel⟩
theorem tz_Ba_isAlive : cz_V y_Ba_isAlive := ⟨List.mem_of_getElem? (i := 299) (by decide +kernel), List.mem_of_getElem? (i := 7) (by decide +kernel)⟩
abbrev b_Ba_orderAgainst : ByteArray := prog_2_method_13_code
abbrev y_Ba_orderAgainst : MethodName := ⟨"AreaRouters$Base", "orderAgainst", "(LAreaRouters$Base;I)I"⟩
theorem sz_Ba_orderAgainst : cz_S (.code y_Ba_orderAgainst b_Ba_orderAgainst 3 (some .int)) y_Ba_orderAgainst b_Ba_orderAgainst 3 (some .int) 2 := ⟨rfl, List.mem_of_getElem? (i := 585) (by decide +kernel), List.mem_of_getElem? (i := 99) (by decide +kernel), by decide +kernel, by decide +kernel⟩
theorem tz_Ba_orderAgainst : cz_V y_Ba_orderAgainst := ⟨List.mem_of_getElem? (i := 584) (by decide +kernel), List.mem_of_getElem? (i := 38) (by decide +kernel)⟩
abbrev b_Ba_setDue : ByteArray := prog_2_method_7_code
abbrev y_Ba_setDue : MethodName := ⟨"AreaRouters$Base", "setDue", "(IIZ)V"⟩
theorem sz_Ba_setDue : cz_S (.code y_Ba_setDue b_Ba_setDue 4 none) y_Ba_setDue b_Ba_setDue 4 none 3 := ⟨rfl, List.mem_of_getElem? (i := 589) (by decide +kernel), List.mem_of_getElem? (i := 99) (by decide +kernel), by decide +kernel, by decide +kernel⟩
theorem tz_Ba_setDue : cz_V y_Ba_setDue := ⟨List.mem_of_getElem? (i := 588) (by decide +kernel), List.mem_of_getElem? (i := 39) (by decide +kernel)⟩
abbrev b_Ba_setAsked : ByteArray := prog_2_method_8_code
abbrev y_Ba_setAsked : MethodName := ⟨"AreaRouters$Base", "setAsked", "(IIZ)V"⟩
theorem sz_Ba_setAsked : cz_S (.code y_Ba_setAsked b_Ba_setAsked 4 none) y_Ba_setAsked b_Ba_setAsked 4 none 3 := ⟨rfl, List.mem_of_getElem? (i := 593) (by decide +kernel), List.mem_of_getElem? (i := 99) (by decide +kernel), by decide +kernel, by decide +kernel⟩
theorem tz_Ba_setAsked : cz_V y_Ba_setAsked := ⟨List.mem_of_getElem? (i := 592) (by decide +kernel), List.mem_of_getElem? (i := 40) (by decide +kernel)⟩
abbrev b_Ba_takeLinks : ByteArray := prog_2_method_19_code
abbrev y_Ba_takeLinks : MethodName := ⟨"AreaRouters$Base", "takeLinks", "(I[III)V"⟩
theorem sz_Ba_takeLinks : cz_S (.code y_Ba_takeLinks b_Ba_takeLinks 6 none) y_Ba_takeLinks b_Ba_takeLinks 6 none 4 := ⟨rfl, List.mem_of_getElem? (i := 604) (by decide +kernel), List.mem_of_getElem? (i := 99) (by decide +kernel), by decide +kernel, by decide +kernel⟩
theorem tz_Ba_takeLinks : cz_V y_Ba_takeLinks := ⟨List.mem_of_getElem? (i := 603) (by decide +kernel), List.mem_of_getElem? (i := 42) (by decide +kernel)⟩
abbrev b_Ba_copyFrom : ByteArray := prog_2_method_18_code
abbrev y_Ba_copyFrom : MethodName := ⟨"AreaRouters$Base", "copyFrom", "(LAreaRouters$Base;I)V"⟩
theorem sz_Ba_copyFrom : cz_S (.code y_Ba_copyFrom b_Ba_copyFrom 3 none) y_Ba_copyFrom b_Ba_copyFrom 3 none 2 := ⟨rfl, List.mem_of_getElem? (i := 597) (by decide +kernel), List.mem_of_getElem? (i := 99) (by decide +kernel), by decide +kernel, by decide +kernel⟩
theorem tz_Ba_copyFrom : cz_V y_Ba_copyFrom := ⟨List.mem_of_getElem? (i := 596) (by decide +kernel), List.mem_of_getElem? (i := 41) (by decide +kernel)⟩
abbrev b_AR_routerOf : ByteArray := prog_1_method_22_code
abbrev y_AR_routerOf : MethodName := ⟨"AreaRouters", "routerOf", "(I)I"⟩
theorem sz_AR_routerOf : cz_S (.code y_AR_routerOf b_AR_routerOf 1 (some .int)) y_AR_routerOf b_AR_routerOf 1 (some .int) 1 := ⟨rfl, List.mem_of_getElem? (i := 407) (by decide +kernel), List.mem_of_getElem? (i := 96) (by decide +kernel), by decide +kernel, by decide +kernel⟩
theorem tz_AR_routerOf : Cond.static y_AR_routerOf ∈ lw_tbl := List.mem_of_getElem? (i := 406) (by decide +kernel)
abbrev b_AR_partOf : ByteArray := prog_1_method_23_code
abbrev y_AR_partOf : MethodName := ⟨"AreaRouters", "partOf", "(I)I"⟩
theorem sz_AR_partOf : cz_S (.code y_AR_partOf b_AR_partOf 1 (some .int)) y_AR_partOf b_AR_partOf 1 (some .int) 1 := ⟨rfl, List.mem_of_getElem? (i := 389) (by decide +kernel), List.mem_of_getElem? (i := 96) (by decide +kernel), by decide +kernel, by decide +kernel⟩
theorem tz_AR_partOf : Cond.static y_AR_partOf ∈ lw_tbl := List.mem_of_getElem? (i := 388) (by decide +kernel)
abbrev b_Dr_begin : ByteArray := prog_3_method_2_code
abbrev y_Dr_begin : MethodName := ⟨"AreaRouters$Draft", "begin", "(I)V"⟩
theorem sz_Dr_begin : cz_S (.code y_Dr_begin b_Dr_begin 2 none) y_Dr_begin b_Dr_begin 2 none 1 := ⟨rfl, List.mem_of_getElem? (i := 619) (by decide +kernel), List.mem_of_getElem? (i := 100) (by decide +kernel), by decide +kernel, by decide +kernel⟩
theorem tz_Dr_begin : cz_V y_Dr_begin := ⟨List.mem_of_getElem? (i := 618) (by decide +kernel), List.mem_of_getElem? (i := 45) (by decide +kernel)⟩
abbrev b_AR_hasLevelTwoNeighbourElsewhere : ByteArray := prog_1_method_32_code
abbrev y_AR_hasLevelTwoNeighbourElsewhere : MethodName := ⟨"AreaRouters", "hasLevelTwoNeighbourElsewhere", "(I)Z"⟩
theorem sz_AR_hasLevelTwoNeighbourElsewhere : cz_S (.code y_AR_hasLevelTwoNeighbourElsewhere b_AR_hasLevelTwoNeighbourElsewhere 4 (some .boolean)) y_AR_hasLevelTwoNeighbourElsewhere b_AR_hasLevelTwoNeighbourElsewhere 4 (some .boolean) 1 := ⟨rfl, List.mem_of_getElem? (i := 627) (by decide +kernel), List.mem_of_getElem? (i := 96) (by decide +kernel), by decide +kernel, by decide +kernel⟩
theorem tz_AR_hasLevelTwoNeighbourElsewhere : cz_V y_AR_hasLevelTwoNeighbourElsewhere := ⟨List.mem_of_getElem? (i := 626) (by decide +kernel), List.mem_of_getElem? (i := 47) (by decide +kernel)⟩
abbrev b_He_firstMutual : ByteArray := prog_4_method_5_code
abbrev y_He_firstMutual : MethodName := ⟨"AreaRouters$Hearing", "firstMutual", "(II)I"⟩
theorem sz_He_firstMutual : cz_S (.code y_He_firstMutual b_He_firstMutual 4 (some .int)) y_He_firstMutual b_He_firstMutual 4 (some .int) 2 := ⟨rfl, List.mem_of_getElem? (i := 631) (by decide +kernel), List.mem_of_getElem? (i := 98) (by decide +kernel), by decide +kernel, by decide +kernel⟩
theorem tz_He_firstMutual : cz_V y_He_firstMutual := ⟨List.mem_of_getElem? (i := 630) (by decide +kernel), List.mem_of_getElem? (i := 48) (by decide +kernel)⟩
abbrev b_Wi_isShared : ByteArray := prog_6_method_7_code
abbrev y_Wi_isShared : MethodName := ⟨"AreaRouters$Wiring", "isShared", "(I)Z"⟩
theorem sz_Wi_isShared : cz_S (.code y_Wi_isShared b_Wi_isShared 2 (some .boolean)) y_Wi_isShared b_Wi_isShared 2 (some .boolean) 1 := ⟨rfl, List.mem_of_getElem? (i := 636) (by decide +kernel), List.mem_of_getElem? (i := 97) (by decide +kernel), by decide +kernel, by decide +kernel⟩
theorem tz_Wi_isShared : cz_V y_Wi_isShared := ⟨List.mem_of_getElem? (i := 635) (by decide +kernel), List.mem_of_getElem? (i := 49) (by decide +kernel)⟩
abbrev b_Wi_priorityOf : ByteArray := prog_6_method_4_code
abbrev y_Wi_priorityOf : MethodName := ⟨"AreaRouters$Wiring", "priorityOf", "(II)I"⟩
theorem sz_Wi_priorityOf : cz_S (.code y_Wi_priorityOf b_Wi_priorityOf 3 (some .int)) y_Wi_priorityOf b_Wi_priorityOf 3 (some .int) 2 := ⟨rfl, List.mem_of_getElem? (i := 343) (by decide +kernel), List.mem_of_getElem? (i := 97) (by decide +kernel), by decide +kernel, by decide +kernel⟩
theorem tz_Wi_priorityOf : cz_V y_Wi_priorityOf := ⟨List.mem_of_getElem? (i := 342) (by decide +kernel), List.mem_of_getElem? (i := 15) (by decide +kernel)⟩
abbrev b_AR_speakerSeenBy : ByteArray := prog_1_method_31_code
abbrev y_AR_speakerSeenBy : MethodName := ⟨"AreaRouters", "speakerSeenBy", "(III)I"⟩
theorem sz_AR_speakerSeenBy : cz_S (.code y_AR_speakerSeenBy b_AR_speakerSeenBy 7 (some .int)) y_AR_speakerSeenBy b_AR_speakerSeenBy 7 (some .int) 3 := ⟨rfl, List.mem_of_getElem? (i := 339) (by decide +kernel), List.mem_of_getElem? (i := 96) (by decide +kernel), by decide +kernel, by decide +kernel⟩
theorem tz_AR_speakerSeenBy : cz_V y_AR_speakerSeenBy := ⟨List.mem_of_getElem? (i := 338) (by decide +kernel), List.mem_of_getElem? (i := 14) (by decide +kernel)⟩
abbrev b_AR_nameOf : ByteArray := prog_1_method_21_code
abbrev y_AR_nameOf : MethodName := ⟨"AreaRouters", "nameOf", "(II)I"⟩
theorem sz_AR_nameOf : cz_S (.code y_AR_nameOf b_AR_nameOf 2 (some .int)) y_AR_nameOf b_AR_nameOf 2 (some .int) 2 := ⟨rfl, List.mem_of_getElem? (i := 377) (by decide +kernel), List.mem_of_getElem? (i := 96) (by decide +kernel), by decide +kernel, by decide +kernel⟩
theorem tz_AR_nameOf : Cond.static y_AR_nameOf ∈ lw_tbl := List.mem_of_getElem? (i := 376) (by decide +kernel)
abbrev b_Wi_metricOf : ByteArray := prog_6_method_3_code
abbrev y_Wi_metricOf : MethodName := ⟨"AreaRouters$Wiring", "metricOf", "(II)I"⟩
theorem sz_Wi_metricOf : cz_S (.code y_Wi_metricOf b_Wi_metricOf 3 (some .int)) y_Wi_metricOf b_Wi_metricOf 3 (some .int) 2 := ⟨rfl, List.mem_of_getElem? (i := 641) (by decide +kernel), List.mem_of_getElem? (i := 97) (by decide +kernel), by decide +kernel, by decide +kernel⟩
theorem tz_Wi_metricOf : cz_V y_Wi_metricOf := ⟨List.mem_of_getElem? (i := 640) (by decide +kernel), List.mem_of_getElem? (i := 50) (by decide +kernel)⟩
abbrev b_Dr_addLink : ByteArray := prog_3_method_3_code
abbrev y_Dr_addLink : MethodName := ⟨"AreaRouters$Draft", "addLink", "(II)V"⟩
theorem sz_Dr_addLink : cz_S (.code y_Dr_addLink b_Dr_addLink 3 none) y_Dr_addLink b_Dr_addLink 3 none 2 := ⟨rfl, List.mem_of_getElem? (i := 645) (by decide +kernel), List.mem_of_getElem? (i := 100) (by decide +kernel), by decide +kernel, by decide +kernel⟩
theorem tz_Dr_addLink : cz_V y_Dr_addLink := ⟨List.mem_of_getElem? (i := 644) (by decide +kernel), List.mem_of_getElem? (i := 51) (by decide +kernel)⟩
abbrev b_AR_draftItself : ByteArray := prog_1_method_34_code
abbrev y_AR_draftItself : MethodName := ⟨"AreaRouters", "draftItself", "(II)V"⟩
theorem sz_AR_draftItself : cz_S (.code y_AR_draftItself b_AR_draftItself 6 none) y_AR_draftItself b_AR_draftItself 6 none 2 := ⟨rfl, List.mem_of_getElem? (i := 623) (by decide +kernel), List.mem_of_getElem? (i := 96) (by decide +kernel), by decide +kernel, by decide +kernel⟩
theorem tz_AR_draftItself : cz_V y_AR_draftItself := ⟨List.mem_of_getElem? (i := 622) (by decide +kernel), List.mem_of_getElem? (i := 46) (by decide +kernel)⟩
abbrev b_AR_draftCircuit : ByteArray := prog_1_method_35_code
abbrev y_AR_draftCircuit : MethodName := ⟨"AreaRouters", "draftCircuit", "(III)Z"⟩
theorem sz_AR_draftCircuit : cz_S (.code y_AR_draftCircuit b_AR_draftCircuit 6 (some .boolean)) y_AR_draftCircuit b_AR_draftCircuit 6 (some .boolean) 3 := ⟨rfl, List.mem_of_getElem? (i := 649) (by decide +kernel), List.mem_of_getElem? (i := 96) (by decide +kernel), by decide +kernel, by decide +kernel⟩
theorem tz_AR_draftCircuit : cz_V y_AR_draftCircuit := ⟨List.mem_of_getElem? (i := 648) (by decide +kernel), List.mem_of_getElem? (i := 52) (by decide +kernel)⟩
abbrev b_AR_draftPart : ByteArray := prog_1_method_33_code
abbrev y_AR_draftPart : MethodName := ⟨"AreaRouters", "draftPart", "(III)Z"⟩
theorem sz_AR_draftPart : cz_S (.code y_AR_draftPart b_AR_draftPart 4 (some .boolean)) y_AR_draftPart b_AR_draftPart 4 (some .boolean) 3 := ⟨rfl, List.mem_of_getElem? (i := 615) (by decide +kernel), List.mem_of_getElem? (i := 96) (by decide +kernel), by decide +kernel, by decide +kernel⟩
theorem tz_AR_draftPart : cz_V y_AR_draftPart := ⟨List.mem_of_getElem? (i := 614) (by decide +kernel), List.mem_of_getElem? (i := 44) (by decide +kernel)⟩
abbrev b_Ba_renew : ByteArray := prog_2_method_17_code
abbrev y_Ba_renew : MethodName := ⟨"AreaRouters$Base", "renew", "(ILAreaRouters$Draft;I)V"⟩
theorem sz_Ba_renew : cz_S (.code y_Ba_renew b_Ba_renew 4 none) y_Ba_renew b_Ba_renew 4 none 3 := ⟨rfl, List.mem_of_getElem? (i := 653) (by decide +kernel), List.mem_of_getElem? (i := 99) (by decide +kernel), by decide +kernel, by decide +kernel⟩
theorem tz_Ba_renew : cz_V y_Ba_renew := ⟨List.mem_of_getElem? (i := 652) (by decide +kernel), List.mem_of_getElem? (i := 53) (by decide +kernel)⟩
abbrev b_Ba_end : ByteArray := prog_2_method_21_code
abbrev y_Ba_end : MethodName := ⟨"AreaRouters$Base", "end", "(II)V"⟩
theorem sz_Ba_end : cz_S (.code y_Ba_end b_Ba_end 3 none) y_Ba_end b_Ba_end 3 none 2 := ⟨rfl, List.mem_of_getElem? (i := 304) (by decide +kernel), List.mem_of_getElem? (i := 99) (by decide +kernel), by decide +kernel, by decide +kernel⟩
theorem tz_Ba_end : cz_V y_Ba_end := ⟨List.mem_of_getElem? (i := 303) (by decide +kernel), List.mem_of_getElem? (i := 8) (by decide +kernel)⟩
abbrev b_Ba_askNowhere : ByteArray := prog_2_method_10_code
abbrev y_Ba_askNowhere : MethodName := ⟨"AreaRouters$Base", "askNowhere", "(I)V"⟩
theorem sz_Ba_askNowhere : cz_S (.code y_Ba_askNowhere b_Ba_askNowhere 2 none) y_Ba_askNowhere b_Ba_askNowhere 2 none 1 := ⟨rfl, List.mem_of_getElem? (i := 658) (by decide +kernel), List.mem_of_getElem? (i := 99) (by decide +kernel), by decide +kernel, by decide +kernel⟩
theorem tz_Ba_askNowhere : cz_V y_Ba_askNowhere := ⟨List.mem_of_getElem? (i := 657) (by decide +kernel), List.mem_of_getElem? (i := 54) (by decide +kernel)⟩
abbrev b_AR_answerForOwn : ByteArray := prog_1_method_38_code
abbrev y_AR_answerForOwn : MethodName := ⟨"AreaRouters", "answerForOwn", "(III)V"⟩
theorem sz_AR_answerForOwn : cz_S (.code y_AR_answerForOwn b_AR_answerForOwn 5 none) y_AR_answerForOwn b_AR_answerForOwn 5 none 3 := ⟨rfl, List.mem_of_getElem? (i := 610) (by decide +kernel), List.mem_of_getElem? (i := 96) (by decide +kernel), by decide +kernel, by decide +kernel⟩
theorem tz_AR_answerForOwn : cz_V y_AR_answerForOwn := ⟨List.mem_of_getElem? (i := 609) (by decide +kernel), List.mem_of_getElem? (i := 43) (by decide +kernel)⟩
abbrev b_Ba_setDueOn : ByteArray := prog_2_method_9_code
abbrev y_Ba_setDueOn : MethodName := ⟨"AreaRouters$Base", "setDueOn", "(II)V"⟩
theorem sz_Ba_setDueOn : cz_S (.code y_Ba_setDueOn b_Ba_setDueOn 3 none) y_Ba_setDueOn b_Ba_setDueOn 3 none 2 := ⟨rfl, List.mem_of_getElem? (i := 662) (by decide +kernel), List.mem_of_getElem? (i := 99) (by decide +kernel), by decide +kernel, by decide +kernel⟩
theorem tz_Ba_setDueOn : cz_V y_Ba_setDueOn := ⟨List.mem_of_getElem? (i := 661) (by decide +kernel), List.mem_of_getElem? (i := 55) (by decide +kernel)⟩
abbrev b_AR_receive : ByteArray := prog_1_method_37_code
abbrev y_AR_receive : MethodName := ⟨"AreaRouters", "receive", "(IIILAreaRouters$Base;I)V"⟩
theorem sz_AR_receive : cz_S (.code y_AR_receive b_AR_receive 8 none) y_AR_receive b_AR_receive 8 none 5 := ⟨rfl, List.mem_of_getElem? (i := 581) (by decide +kernel), List.mem_of_getElem? (i := 96) (by decide +kernel), by decide +kernel, by decide +kernel⟩
theorem tz_AR_receive : cz_V y_AR_receive := ⟨List.mem_of_getElem? (i := 580) (by decide +kernel), List.mem_of_getElem? (i := 37) (by decide +kernel)⟩
abbrev b_AR_spread : ByteArray := prog_1_method_5_code
abbrev y_AR_spread : MethodName := ⟨"AreaRouters", "spread", "(IIII)I"⟩
theorem sz_AR_spread : cz_S (.code y_AR_spread b_AR_spread 9 (some .int)) y_AR_spread b_AR_spread 9 (some .int) 4 := ⟨rfl, List.mem_of_getElem? (i := 549) (by decide +kernel), List.mem_of_getElem? (i := 96) (by decide +kernel), by decide +kernel, by decide +kernel⟩
theorem tz_AR_spread : cz_V y_AR_spread := ⟨List.mem_of_getElem? (i := 547) (by decide +kernel), List.mem_of_getElem? (i := 548) (by decide +kernel)⟩
abbrev b_Ba_has : ByteArray := prog_2_method_2_code
abbrev y_Ba_has : MethodName := ⟨"AreaRouters$Base", "has", "(I)Z"⟩
theorem sz_Ba_has : cz_S (.code y_Ba_has b_Ba_has 2 (some .boolean)) y_Ba_has b_Ba_has 2 (some .boolean) 1 := ⟨rfl, List.mem_of_getElem? (i := 308) (by decide +kernel), List.mem_of_getElem? (i := 99) (by decide +kernel), by decide +kernel, by decide +kernel⟩
theorem tz_Ba_has : cz_V y_Ba_has := ⟨List.mem_of_getElem? (i := 307) (by decide +kernel), List.mem_of_getElem? (i := 9) (by decide +kernel)⟩
abbrev b_Ba_compareWithTold : ByteArray := prog_2_method_14_code
abbrev y_Ba_compareWithTold : MethodName := ⟨"AreaRouters$Base", "compareWithTold", "(LAreaRouters$Base;II)V"⟩
theorem sz_Ba_compareWithTold : cz_S (.code y_Ba_compareWithTold b_Ba_compareWithTold 5 none) y_Ba_compareWithTold b_Ba_compareWithTold 5 none 3 := ⟨rfl, List.mem_of_getElem? (i := 677) (by decide +kernel), List.mem_of_getElem? (i := 99) (by decide +kernel), by decide +kernel, by decide +kernel⟩
theorem tz_Ba_compareWithTold : cz_V y_Ba_compareWithTold := ⟨List.mem_of_getElem? (i := 676) (by decide +kernel), List.mem_of_getElem? (i := 57) (by decide +kernel)⟩
abbrev b_Ba_compareWithSummary : ByteArray := prog_2_method_15_code
abbrev y_Ba_compareWithSummary : MethodName := ⟨"AreaRouters$Base", "compareWithSummary", "(LAreaRouters$Base;I)V"⟩
theorem sz_Ba_compareWithSummary : cz_S (.code y_Ba_compareWithSummary b_Ba_compareWithSummary 4 none) y_Ba_compareWithSummary b_Ba_compareWithSummary 4 none 2 := ⟨rfl, List.mem_of_getElem? (i := 673) (by decide +kernel), List.mem_of_getElem? (i := 99) (by decide +kernel), by decide +kernel, by decide +kernel⟩
theorem tz_Ba_compareWithSummary : cz_V y_Ba_compareWithSummary := ⟨List.mem_of_getElem? (i := 672) (by decide +kernel), List.mem_of_getElem? (i := 56) (by decide +kernel)⟩
abbrev b_Ba_count : ByteArray := prog_2_method_4_code
abbrev y_Ba_count : MethodName := ⟨"AreaRouters$Base", "count", "()I"⟩
theorem sz_Ba_count : cz_S (.code y_Ba_count b_Ba_count 3 (some .int)) y_Ba_count b_Ba_count 3 (some .int) 0 := ⟨rfl, List.mem_of_getElem? (i := 684) (by decide +kernel), List.mem_of_getElem? (i := 99) (by decide +kernel), by decide +kernel, by decide +kernel⟩
theorem tz_Ba_count : cz_V y_Ba_count := ⟨List.mem_of_getElem? (i := 683) (by decide +kernel), List.mem_of_getElem? (i := 58) (by decide +kernel)⟩
abbrev b_AR_summary : ByteArray := prog_1_method_6_code
abbrev y_AR_summary : MethodName := ⟨"AreaRouters", "summary", "(IIII)I"⟩
theorem sz_AR_summary : cz_S (.code y_AR_summary b_AR_summary 7 (some .int)) y_AR_summary b_AR_summary 7 (some .int) 4 := ⟨rfl, List.mem_of_getElem? (i := 669) (by decide +kernel), List.mem_of_getElem? (i := 96) (by decide +kernel), by decide +kernel, by decide +kernel⟩
theorem tz_AR_summary : cz_V y_AR_summary := ⟨List.mem_of_getElem? (i := 667) (by decide +kernel), List.mem_of_getElem? (i := 668) (by decide +kernel)⟩
abbrev b_Ba_isAsked : ByteArray := prog_2_method_6_code
abbrev y_Ba_isAsked : MethodName := ⟨"AreaRouters$Base", "isAsked", "(II)Z"⟩
theorem sz_Ba_isAsked : cz_S (.code y_Ba_isAsked b_Ba_isAsked 3 (some .boolean)) y_Ba_isAsked b_Ba_isAsked 3 (some .boolean) 2 := ⟨rfl, List.mem_of_getElem? (i := 695) (by decide +kernel), List.mem_of_getElem? (i := 99) (by decide +kernel), by decide +kernel, by decide +kernel⟩
theorem tz_Ba_isAsked : cz_V y_Ba_isAsked := ⟨List.mem_of_getElem? (i := 694) (by decide +kernel), List.mem_of_getElem? (i := 59) (by decide +kernel)⟩
abbrev b_AR_request : ByteArray := prog_1_method_7_code
abbrev y_AR_request : MethodName := ⟨"AreaRouters", "request", "(IIII)I"⟩
theorem sz_AR_request : cz_S (.code y_AR_request b_AR_request 9 (some .int)) y_AR_request b_AR_request 9 (some .int) 4 := ⟨rfl, List.mem_of_getElem? (i := 691) (by decide +kernel), List.mem_of_getElem? (i := 96) (by decide +kernel), by decide +kernel, by decide +kernel⟩
theorem tz_AR_request : cz_V y_AR_request := ⟨List.mem_of_getElem? (i := 689) (by decide +kernel), List.mem_of_getElem? (i := 690) (by decide +kernel)⟩
abbrev b_Ba_linkOf : ByteArray := prog_2_method_20_code
abbrev y_Ba_linkOf : MethodName := ⟨"AreaRouters$Base", "linkOf", "(II)I"⟩
theorem sz_Ba_linkOf : cz_S (.code y_Ba_linkOf b_Ba_linkOf 3 (some .int)) y_Ba_linkOf b_Ba_linkOf 3 (some .int) 2 := ⟨rfl, List.mem_of_getElem? (i := 358) (by decide +kernel), List.mem_of_getElem? (i := 99) (by decide +kernel), by decide +kernel, by decide +kernel⟩
theorem tz_Ba_linkOf : cz_V y_Ba_linkOf := ⟨List.mem_of_getElem? (i := 357) (by decide +kernel), List.mem_of_getElem? (i := 17) (by decide +kernel)⟩
abbrev b_Ba_isStillTrue : ByteArray := prog_2_method_16_code
abbrev y_Ba_isStillTrue : MethodName := ⟨"AreaRouters$Base", "isStillTrue", "(ILAreaRouters$Draft;)Z"⟩
theorem sz_Ba_isStillTrue : cz_S (.code y_Ba_isStillTrue b_Ba_isStillTrue 4 (some .boolean)) y_Ba_isStillTrue b_Ba_isStillTrue 4 (some .boolean) 2 := ⟨rfl, List.mem_of_getElem? (i := 712) (by decide +kernel), List.mem_of_getElem? (i := 99) (by decide +kernel), by decide +kernel, by decide +kernel⟩
theorem tz_Ba_isStillTrue : cz_V y_Ba_isStillTrue := ⟨List.mem_of_getElem? (i := 711) (by decide +kernel), List.mem_of_getElem? (i := 61) (by decide +kernel)⟩
abbrev b_AR_bringUpToDate : ByteArray := prog_1_method_36_code
abbrev y_AR_bringUpToDate : MethodName := ⟨"AreaRouters", "bringUpToDate", "(III)Z"⟩
theorem sz_AR_bringUpToDate : cz_S (.code y_AR_bringUpToDate b_AR_bringUpToDate 6 (some .boolean)) y_AR_bringUpToDate b_AR_bringUpToDate 6 (some .boolean) 3 := ⟨rfl, List.mem_of_getElem? (i := 708) (by decide +kernel), List.mem_of_getElem? (i := 96) (by decide +kernel), by decide +kernel, by decide +kernel⟩
theorem tz_AR_bringUpToDate : cz_V y_AR_bringUpToDate := ⟨List.mem_of_getElem? (i := 707) (by decide +kernel), List.mem_of_getElem? (i := 60) (by decide +kernel)⟩
abbrev b_AR_describe : ByteArray := prog_1_method_8_code
abbrev y_AR_describe : MethodName := ⟨"AreaRouters", "describe", "(I)I"⟩
theorem sz_AR_describe : cz_S (.code y_AR_describe b_AR_describe 5 (some .int)) y_AR_describe b_AR_describe 5 (some .int) 1 := ⟨rfl, List.mem_of_getElem? (i := 703) (by decide +kernel), List.mem_of_getElem? (i := 96) (by decide +kernel), by decide +kernel, by decide +kernel⟩
theorem tz_AR_describe : cz_V y_AR_describe := ⟨List.mem_of_getElem? (i := 701) (by decide +kernel), List.mem_of_getElem? (i := 702) (by decide +kernel)⟩
abbrev b_He_age : ByteArray := prog_4_method_6_code
abbrev y_He_age : MethodName := ⟨"AreaRouters$Hearing", "age", "()V"⟩
theorem sz_He_age : cz_S (.code y_He_age b_He_age 2 none) y_He_age b_He_age 2 none 0 := ⟨rfl, List.mem_of_getElem? (i := 288) (by decide +kernel), List.mem_of_getElem? (i := 98) (by decide +kernel), by decide +kernel, by decide +kernel⟩
theorem tz_He_age : cz_V y_He_age := ⟨List.mem_of_getElem? (i := 287) (by decide +kernel), List.mem_of_getElem? (i := 4) (by decide +kernel)⟩
abbrev b_Ba_remove : ByteArray := prog_2_method_23_code
abbrev y_Ba_remove : MethodName := ⟨"AreaRouters$Base", "remove", "(I)V"⟩
theorem sz_Ba_remove : cz_S (.code y_Ba_remove b_Ba_remove 2 none) y_Ba_remove b_Ba_remove 2 none 1 := ⟨rfl, List.mem_of_getElem? (i := 312) (by decide +kernel), List.mem_of_getElem? (i := 99) (by decide +kernel), by decide +kernel, by decide +kernel⟩
theorem tz_Ba_remove : cz_V y_Ba_remove := ⟨List.mem_of_getElem? (i := 311) (by decide +kernel), List.mem_of_getElem? (i := 10) (by decide +kernel)⟩
abbrev b_Ba_age : ByteArray := prog_2_method_22_code
abbrev y_Ba_age : MethodName := ⟨"AreaRouters$Base", "age", "(I)V"⟩
theorem sz_Ba_age : cz_S (.code y_Ba_age b_Ba_age 3 none) y_Ba_age b_Ba_age 3 none 1 := ⟨rfl, List.mem_of_getElem? (i := 296) (by decide +kernel), List.mem_of_getElem? (i := 99) (by decide +kernel), by decide +kernel, by decide +kernel⟩
theorem tz_Ba_age : cz_V y_Ba_age := ⟨List.mem_of_getElem? (i := 295) (by decide +kernel), List.mem_of_getElem? (i := 6) (by decide +kernel)⟩
abbrev b_AR_tick : ByteArray := prog_1_method_9_code
abbrev y_AR_tick : MethodName := ⟨"AreaRouters", "tick", "()V"⟩
theorem sz_AR_tick : cz_S (.code y_AR_tick b_AR_tick 3 none) y_AR_tick b_AR_tick 3 none 0 := ⟨rfl, List.mem_of_getElem? (i := 284) (by decide +kernel), List.mem_of_getElem? (i := 96) (by decide +kernel), by decide +kernel, by decide +kernel⟩
theorem tz_AR_tick : cz_V y_AR_tick := ⟨List.mem_of_getElem? (i := 282) (by decide +kernel), List.mem_of_getElem? (i := 283) (by decide +kernel)⟩
abbrev b_AR_neighbour : ByteArray := prog_1_method_10_code
abbrev y_AR_neighbour : MethodName := ⟨"AreaRouters", "neighbour", "(IIII)Z"⟩
theorem sz_AR_neighbour : cz_S (.code y_AR_neighbour b_AR_neighbour 5 (some .boolean)) y_AR_neighbour b_AR_neighbour 5 (some .boolean) 4 := ⟨rfl, List.mem_of_getElem? (i := 316) (by decide +kernel), List.mem_of_getElem? (i := 96) (by decide +kernel), by decide +kernel, by decide +kernel⟩
theorem tz_AR_neighbour : cz_V y_AR_neighbour := ⟨List.mem_of_getElem? (i := 314) (by decide +kernel), List.mem_of_getElem? (i := 315) (by decide +kernel)⟩
abbrev b_AR_speaker : ByteArray := prog_1_method_11_code
abbrev y_AR_speaker : MethodName := ⟨"AreaRouters", "speaker", "(III)I"⟩
theorem sz_AR_speaker : cz_S (.code y_AR_speaker b_AR_speaker 4 (some .int)) y_AR_speaker b_AR_speaker 4 (some .int) 3 := ⟨rfl, List.mem_of_getElem? (i := 331) (by decide +kernel), List.mem_of_getElem? (i := 96) (by decide +kernel), by decide +kernel, by decide +kernel⟩
theorem tz_AR_speaker : cz_V y_AR_speaker := ⟨List.mem_of_getElem? (i := 329) (by decide +kernel), List.mem_of_getElem? (i := 330) (by decide +kernel)⟩
abbrev b_AR_isName : ByteArray := prog_1_method_19_code
abbrev y_AR_isName : MethodName := ⟨"AreaRouters", "isName", "(I)Z"⟩
theorem sz_AR_isName : cz_S (.code y_AR_isName b_AR_isName 1 (some .boolean)) y_AR_isName b_AR_isName 1 (some .boolean) 1 := ⟨rfl, List.mem_of_getElem? (i := 350) (by decide +kernel), List.mem_of_getElem? (i := 96) (by decide +kernel), by decide +kernel, by decide +kernel⟩
theorem tz_AR_isName : Cond.static y_AR_isName ∈ lw_tbl := List.mem_of_getElem? (i := 349) (by decide +kernel)
abbrev b_Ba_tell : ByteArray := prog_2_method_12_code
abbrev y_Ba_tell : MethodName := ⟨"AreaRouters$Base", "tell", "(II)I"⟩
theorem sz_Ba_tell : cz_S (.code y_Ba_tell b_Ba_tell 3 (some .int)) y_Ba_tell b_Ba_tell 3 (some .int) 2 := ⟨rfl, List.mem_of_getElem? (i := 354) (by decide +kernel), List.mem_of_getElem? (i := 99) (by decide +kernel), by decide +kernel, by decide +kernel⟩
theorem tz_Ba_tell : cz_V y_Ba_tell := ⟨List.mem_of_getElem? (i := 353) (by decide +kernel), List.mem_of_getElem? (i := 16) (by decide +kernel)⟩
abbrev b_AR_description : ByteArray := prog_1_method_12_code
abbrev y_AR_description : MethodName := ⟨"AreaRouters", "description", "(IIII)I"⟩
theorem sz_AR_description : cz_S (.code y_AR_description b_AR_description 5 (some .int)) y_AR_description b_AR_description 5 (some .int) 4 := ⟨rfl, List.mem_of_getElem? (i := 347) (by decide +kernel), List.mem_of_getElem? (i := 96) (by decide +kernel), by decide +kernel, by decide +kernel⟩
theorem tz_AR_description : cz_V y_AR_description := ⟨List.mem_of_getElem? (i := 345) (by decide +kernel), List.mem_of_getElem? (i := 346) (by decide +kernel)⟩
abbrev b_Ba_marksOf : ByteArray := prog_2_method_11_code
abbrev y_Ba_marksOf : MethodName := ⟨"AreaRouters$Base", "marksOf", "(I)I"⟩
theorem sz_Ba_marksOf : cz_S (.code y_Ba_marksOf b_Ba_marksOf 2 (some .int)) y_Ba_marksOf b_Ba_marksOf 2 (some .int) 1 := ⟨rfl, List.mem_of_getElem? (i := 366) (by decide +kernel), List.mem_of_getElem? (i := 99) (by decide +kernel), by decide +kernel, by decide +kernel⟩
theorem tz_Ba_marksOf : cz_V y_Ba_marksOf := ⟨List.mem_of_getElem? (i := 365) (by decide +kernel), List.mem_of_getElem? (i := 18) (by decide +kernel)⟩
abbrev b_AR_marks : ByteArray := prog_1_method_13_code
abbrev y_AR_marks : MethodName := ⟨"AreaRouters", "marks", "(III)I"⟩
theorem sz_AR_marks : cz_S (.code y_AR_marks b_AR_marks 4 (some .int)) y_AR_marks b_AR_marks 4 (some .int) 3 := ⟨rfl, List.mem_of_getElem? (i := 362) (by decide +kernel), List.mem_of_getElem? (i := 96) (by decide +kernel), by decide +kernel, by decide +kernel⟩
theorem tz_AR_marks : cz_V y_AR_marks := ⟨List.mem_of_getElem? (i := 360) (by decide +kernel), List.mem_of_getElem? (i := 361) (by decide +kernel)⟩
abbrev b_Wa_nextToSettle : ByteArray := prog_5_method_3_code
abbrev y_Wa_nextToSettle : MethodName := ⟨"AreaRouters$Ways", "nextToSettle", "()I"⟩
theorem sz_Wa_nextToSettle : cz_S (.code y_Wa_nextToSettle b_Wa_nextToSettle 3 (some .int)) y_Wa_nextToSettle b_Wa_nextToSettle 3 (some .int) 0 := ⟨rfl, List.mem_of_getElem? (i := 386) (by decide +kernel), List.mem_of_getElem? (i := 101) (by decide +kernel), by decide +kernel, by decide +kernel⟩
theorem tz_Wa_nextToSettle : cz_V y_Wa_nextToSettle := ⟨List.mem_of_getElem? (i := 385) (by decide +kernel), List.mem_of_getElem? (i := 21) (by decide +kernel)⟩
abbrev b_Ba_hasLink : ByteArray := prog_2_method_24_code
abbrev y_Ba_hasLink : MethodName := ⟨"AreaRouters$Base", "hasLink", "(II)Z"⟩
theorem sz_Ba_hasLink : cz_S (.code y_Ba_hasLink b_Ba_hasLink 4 (some .boolean)) y_Ba_hasLink b_Ba_hasLink 4 (some .boolean) 2 := ⟨rfl, List.mem_of_getElem? (i := 400) (by decide +kernel), List.mem_of_getElem? (i := 99) (by decide +kernel), by decide +kernel, by decide +kernel⟩
theorem tz_Ba_hasLink : cz_V y_Ba_hasLink := ⟨List.mem_of_getElem? (i := 399) (by decide +kernel), List.mem_of_getElem? (i := 23) (by decide +kernel)⟩
abbrev b_Wa_reach : ByteArray := prog_5_method_5_code
abbrev y_Wa_reach : MethodName := ⟨"AreaRouters$Ways", "reach", "(III)V"⟩
theorem sz_Wa_reach : cz_S (.code y_Wa_reach b_Wa_reach 5 none) y_Wa_reach b_Wa_reach 5 none 3 := ⟨rfl, List.mem_of_getElem? (i := 404) (by decide +kernel), List.mem_of_getElem? (i := 101) (by decide +kernel), by decide +kernel, by decide +kernel⟩
theorem tz_Wa_reach : cz_V y_Wa_reach := ⟨List.mem_of_getElem? (i := 403) (by decide +kernel), List.mem_of_getElem? (i := 24) (by decide +kernel)⟩
abbrev b_Wa_followLinks : ByteArray := prog_5_method_4_code
abbrev y_Wa_followLinks : MethodName := ⟨"AreaRouters$Ways", "followLinks", "(LAreaRouters$Base;I)V"⟩
theorem sz_Wa_followLinks : cz_S (.code y_Wa_followLinks b_Wa_followLinks 6 none) y_Wa_followLinks b_Wa_followLinks 6 none 2 := ⟨rfl, List.mem_of_getElem? (i := 393) (by decide +kernel), List.mem_of_getElem? (i := 101) (by decide +kernel), by decide +kernel, by decide +kernel⟩
theorem tz_Wa_followLinks : cz_V y_Wa_followLinks := ⟨List.mem_of_getElem? (i := 392) (by decide +kernel), List.mem_of_getElem? (i := 22) (by decide +kernel)⟩
abbrev b_Wa_find : ByteArray := prog_5_method_2_code
abbrev y_Wa_find : MethodName := ⟨"AreaRouters$Ways", "find", "(LAreaRouters$Base;I)V"⟩
theorem sz_Wa_find : cz_S (.code y_Wa_find b_Wa_find 5 none) y_Wa_find b_Wa_find 5 none 2 := ⟨rfl, List.mem_of_getElem? (i := 381) (by decide +kernel), List.mem_of_getElem? (i := 101) (by decide +kernel), by decide +kernel, by decide +kernel⟩
theorem tz_Wa_find : cz_V y_Wa_find := ⟨List.mem_of_getElem? (i := 380) (by decide +kernel), List.mem_of_getElem? (i := 20) (by decide +kernel)⟩
abbrev b_Wa_wayTo : ByteArray := prog_5_method_7_code
abbrev y_Wa_wayTo : MethodName := ⟨"AreaRouters$Ways", "wayTo", "(I)I"⟩
theorem sz_Wa_wayTo : cz_S (.code y_Wa_wayTo b_Wa_wayTo 4 (some .int)) y_Wa_wayTo b_Wa_wayTo 4 (some .int) 1 := ⟨rfl, List.mem_of_getElem? (i := 411) (by decide +kernel), List.mem_of_getElem? (i := 101) (by decide +kernel), by decide +kernel, by decide +kernel⟩
theorem tz_Wa_wayTo : cz_V y_Wa_wayTo := ⟨List.mem_of_getElem? (i := 410) (by decide +kernel), List.mem_of_getElem? (i := 25) (by decide +kernel)⟩
abbrev b_Wa_nearer : ByteArray := prog_5_method_6_code
abbrev y_Wa_nearer : MethodName := ⟨"AreaRouters$Ways", "nearer", "(II)I"⟩
theorem sz_Wa_nearer : cz_S (.code y_Wa_nearer b_Wa_nearer 4 (some .int)) y_Wa_nearer b_Wa_nearer 4 (some .int) 2 := ⟨rfl, List.mem_of_getElem? (i := 421) (by decide +kernel), List.mem_of_getElem? (i := 101) (by decide +kernel), by decide +kernel, by decide +kernel⟩
theorem tz_Wa_nearer : cz_V y_Wa_nearer := ⟨List.mem_of_getElem? (i := 420) (by decide +kernel), List.mem_of_getElem? (i := 27) (by decide +kernel)⟩
abbrev b_AR_wayToArea : ByteArray := prog_1_method_40_code
abbrev y_AR_wayToArea : MethodName := ⟨"AreaRouters", "wayToArea", "(II)I"⟩
theorem sz_AR_wayToArea : cz_S (.code y_AR_wayToArea b_AR_wayToArea 6 (some .int)) y_AR_wayToArea b_AR_wayToArea 6 (some .int) 2 := ⟨rfl, List.mem_of_getElem? (i := 417) (by decide +kernel), List.mem_of_getElem? (i := 96) (by decide +kernel), by decide +kernel, by decide +kernel⟩
theorem tz_AR_wayToArea : cz_V y_AR_wayToArea := ⟨List.mem_of_getElem? (i := 416) (by decide +kernel), List.mem_of_getElem? (i := 26) (by decide +kernel)⟩
abbrev b_AR_wayToExit : ByteArray := prog_1_method_41_code
abbrev y_AR_wayToExit : MethodName := ⟨"AreaRouters", "wayToExit", "(I)I"⟩
theorem sz_AR_wayToExit : cz_S (.code y_AR_wayToExit b_AR_wayToExit 5 (some .int)) y_AR_wayToExit b_AR_wayToExit 5 (some .int) 1 := ⟨rfl, List.mem_of_getElem? (i := 425) (by decide +kernel), List.mem_of_getElem? (i := 96) (by decide +kernel), by decide +kernel, by decide +kernel⟩
theorem tz_AR_wayToExit : cz_V y_AR_wayToExit := ⟨List.mem_of_getElem? (i := 424) (by decide +kernel), List.mem_of_getElem? (i := 28) (by decide +kernel)⟩
abbrev b_AR_wayFrom : ByteArray := prog_1_method_39_code
abbrev y_AR_wayFrom : MethodName := ⟨"AreaRouters", "wayFrom", "(II)I"⟩
theorem sz_AR_wayFrom : cz_S (.code y_AR_wayFrom b_AR_wayFrom 4 (some .int)) y_AR_wayFrom b_AR_wayFrom 4 (some .int) 2 := ⟨rfl, List.mem_of_getElem? (i := 374) (by decide +kernel), List.mem_of_getElem? (i := 96) (by decide +kernel), by decide +kernel, by decide +kernel⟩
theorem tz_AR_wayFrom : cz_V y_AR_wayFrom := ⟨List.mem_of_getElem? (i := 373) (by decide +kernel), List.mem_of_getElem? (i := 19) (by decide +kernel)⟩
abbrev b_AR_route : ByteArray := prog_1_method_14_code
abbrev y_AR_route : MethodName := ⟨"AreaRouters", "route", "(II)I"⟩
theorem sz_AR_route : cz_S (.code y_AR_route b_AR_route 3 (some .int)) y_AR_route b_AR_route 3 (some .int) 2 := ⟨rfl, List.mem_of_getElem? (i := 370) (by decide +kernel), List.mem_of_getElem? (i := 96) (by decide +kernel), by decide +kernel, by decide +kernel⟩
theorem tz_AR_route : cz_V y_AR_route := ⟨List.mem_of_getElem? (i := 368) (by decide +kernel), List.mem_of_getElem? (i := 369) (by decide +kernel)⟩
abbrev b_AR_trace : ByteArray := prog_1_method_15_code
abbrev y_AR_trace : MethodName := ⟨"AreaRouters", "trace", "(II)I"⟩
theorem sz_AR_trace : cz_S (.code y_AR_trace b_AR_trace 6 (some .int)) y_AR_trace b_AR_trace 6 (some .int) 2 := ⟨rfl, List.mem_of_getElem? (i := 429) (by decide +kernel), List.mem_of_getElem? (i := 96) (by decide +kernel), by decide +kernel, by decide +kernel⟩
theorem tz_AR_trace : cz_V y_AR_trace := ⟨List.mem_of_getElem? (i := 427) (by decide +kernel), List.mem_of_getElem? (i := 428) (by decide +kernel)⟩
theorem lk_Ba_43 : Cond.methodLink R_Ba 43 ⟨"AreaRouters$Base", "has", "(I)Z"⟩ ∈ lw_tbl := List.mem_of_getElem? (i := 305) (by decide +kernel)
theorem lk_Ba_47 : Cond.methodLink R_Ba 47 ⟨"AreaRouters$Base", "linkOf", "(II)I"⟩ ∈ lw_tbl := List.mem_of_getElem? (i := 355) (by decide +kernel)
theorem lk_Ba_51 : Cond.methodLink R_Ba 51 ⟨"AreaRouters$Base", "isAlive", "(I)Z"⟩ ∈ lw_tbl := List.mem_of_getElem? (i := 297) (by decide +kernel)
theorem lk_Ba_54 : Cond.methodLink R_Ba 54 ⟨"AreaRouters$Base", "orderAgainst", "(LAreaRouters$Base;I)I"⟩ ∈ lw_tbl := List.mem_of_getElem? (i := 678) (by decide +kernel)
theorem lk_Ba_58 : Cond.methodLink R_Ba 58 ⟨"AreaRouters$Base", "setDue", "(IIZ)V"⟩ ∈ lw_tbl := List.mem_of_getElem? (i := 679) (by decide +kernel)
theorem lk_Ba_62 : Cond.methodLink R_Ba 62 ⟨"AreaRouters$Base", "setAsked", "(IIZ)V"⟩ ∈ lw_tbl := List.mem_of_getElem? (i := 680) (by decide +kernel)
theorem lk_Ba_65 : Cond.methodLink R_Ba 65 ⟨"AreaRouters$Base", "compareWithTold", "(LAreaRouters$Base;II)V"⟩ ∈ lw_tbl := List.mem_of_getElem? (i := 674) (by decide +kernel)
theorem lk_Ba_83 : Cond.methodLink R_Ba 83 ⟨"AreaRouters$Base", "takeLinks", "(I[III)V"⟩ ∈ lw_tbl := List.mem_of_getElem? (i := 601) (by decide +kernel)
theorem lk_Ba_92 : Cond.methodLink R_Ba 92 ⟨"AreaRouters$Base", "end", "(II)V"⟩ ∈ lw_tbl := List.mem_of_getElem? (i := 301) (by decide +kernel)
theorem lk_Ba_96 : Cond.methodLink R_Ba 96 ⟨"AreaRouters$Base", "remove", "(I)V"⟩ ∈ lw_tbl := List.mem_of_getElem? (i := 309) (by decide +kernel)
theorem lk_He_19 : Cond.methodLink R_He 19 ⟨"AreaRouters$Hearing", "isMutual", "(III)Z"⟩ ∈ lw_tbl := List.mem_of_getElem? (i := 632) (by decide +kernel)
theorem lk_Wa_23 : Cond.methodLink R_Wa 23 ⟨"AreaRouters$Ways", "nextToSettle", "()I"⟩ ∈ lw_tbl := List.mem_of_getElem? (i := 383) (by decide +kernel)
theorem lk_Wa_27 : Cond.methodLink R_Wa 27 ⟨"AreaRouters$Ways", "followLinks", "(LAreaRouters$Base;I)V"⟩ ∈ lw_tbl := List.mem_of_getElem? (i := 390) (by decide +kernel)
theorem lk_Wa_31 : Cond.methodLinkNest R_Wa 31 ⟨"AreaRouters", "partOf", "(I)I"⟩ "AreaRouters" ∈ lw_tbl := List.mem_of_getElem? (i := 387) (by decide +kernel)
theorem lk_Wa_35 : Cond.methodLinkNest R_Wa 35 ⟨"AreaRouters$Base", "isAlive", "(I)Z"⟩ "AreaRouters" ∈ lw_tbl := List.mem_of_getElem? (i := 394) (by decide +kernel)
theorem lk_Wa_44 : Cond.methodLinkNest R_Wa 44 ⟨"AreaRouters$Base", "linkOf", "(II)I"⟩ "AreaRouters" ∈ lw_tbl := List.mem_of_getElem? (i := 395) (by decide +kernel)
theorem lk_Wa_48 : Cond.methodLinkNest R_Wa 48 ⟨"AreaRouters", "isName", "(I)Z"⟩ "AreaRouters" ∈ lw_tbl := List.mem_of_getElem? (i := 396) (by decide +kernel)
theorem lk_Wa_51 : Cond.methodLinkNest R_Wa 51 ⟨"AreaRouters$Base", "hasLink", "(II)Z"⟩ "AreaRouters" ∈ lw_tbl := List.mem_of_getElem? (i := 397) (by decide +kernel)
theorem lk_Wa_55 : Cond.methodLink R_Wa 55 ⟨"AreaRouters$Ways", "reach", "(III)V"⟩ ∈ lw_tbl := List.mem_of_getElem? (i := 401) (by decide +kernel)
theorem lk_Wa_59 : Cond.methodLinkNest R_Wa 59 ⟨"AreaRouters", "routerOf", "(I)I"⟩ "AreaRouters" ∈ lw_tbl := List.mem_of_getElem? (i := 405) (by decide +kernel)
theorem lk_Wa_62 : Cond.methodLinkNest R_Wa 62 ⟨"AreaRouters", "isRouter", "(I)Z"⟩ "AreaRouters" ∈ lw_tbl := List.mem_of_getElem? (i := 412) (by decide +kernel)
theorem lk_Wa_65 : Cond.methodLinkNest R_Wa 65 ⟨"AreaRouters", "nameOf", "(II)I"⟩ "AreaRouters" ∈ lw_tbl := List.mem_of_getElem? (i := 413) (by decide +kernel)
theorem lk_Wi_18 : Cond.methodLink R_Wi 18 ⟨"AreaRouters$Wiring", "isAttached", "(II)Z"⟩ ∈ lw_tbl := List.mem_of_getElem? (i := 261) (by decide +kernel)
theorem lk_Wi_22 : Cond.methodLink R_Wi 22 ⟨"AreaRouters$Wiring", "countOn", "(I)I"⟩ ∈ lw_tbl := List.mem_of_getElem? (i := 637) (by decide +kernel)
theorem lk_AR_102 : Cond.methodLinkNest R_AR 102 ⟨"AreaRouters$Wiring", "isShared", "(I)Z"⟩ "AreaRouters" ∈ lw_tbl := List.mem_of_getElem? (i := 633) (by decide +kernel)
theorem lk_AR_105 : Cond.methodLinkNest R_AR 105 ⟨"AreaRouters$Base", "setDue", "(IIZ)V"⟩ "AreaRouters" ∈ lw_tbl := List.mem_of_getElem? (i := 586) (by decide +kernel)
theorem lk_AR_109 : Cond.methodLinkNest R_AR 109 ⟨"AreaRouters$Base", "compareWithSummary", "(LAreaRouters$Base;I)V"⟩ "AreaRouters" ∈ lw_tbl := List.mem_of_getElem? (i := 670) (by decide +kernel)
theorem lk_AR_113 : Cond.methodLinkNest R_AR 113 ⟨"AreaRouters$Base", "count", "()I"⟩ "AreaRouters" ∈ lw_tbl := List.mem_of_getElem? (i := 681) (by decide +kernel)
theorem lk_AR_117 : Cond.methodLinkNest R_AR 117 ⟨"AreaRouters$Base", "isAsked", "(II)Z"⟩ "AreaRouters" ∈ lw_tbl := List.mem_of_getElem? (i := 692) (by decide +kernel)
theorem lk_AR_120 : Cond.methodLinkNest R_AR 120 ⟨"AreaRouters$Base", "setAsked", "(IIZ)V"⟩ "AreaRouters" ∈ lw_tbl := List.mem_of_getElem? (i := 590) (by decide +kernel)
theorem lk_AR_123 : Cond.methodLinkNest R_AR 123 ⟨"AreaRouters$Base", "compareWithTold", "(LAreaRouters$Base;II)V"⟩ "AreaRouters" ∈ lw_tbl := List.mem_of_getElem? (i := 696) (by decide +kernel)
theorem lk_AR_134 : Cond.methodLink R_AR 134 ⟨"AreaRouters", "hasLevel", "(II)Z"⟩ ∈ lw_tbl := List.mem_of_getElem? (i := 332) (by decide +kernel)
theorem lk_AR_137 : Cond.methodLink R_AR 137 ⟨"AreaRouters", "bringUpToDate", "(III)Z"⟩ ∈ lw_tbl := List.mem_of_getElem? (i := 705) (by decide +kernel)
theorem lk_AR_141 : Cond.methodLinkNest R_AR 141 ⟨"AreaRouters$Hearing", "age", "()V"⟩ "AreaRouters" ∈ lw_tbl := List.mem_of_getElem? (i := 285) (by decide +kernel)
theorem lk_AR_144 : Cond.methodLinkNest R_AR 144 ⟨"AreaRouters$Base", "age", "(I)V"⟩ "AreaRouters" ∈ lw_tbl := List.mem_of_getElem? (i := 293) (by decide +kernel)
theorem lk_AR_147 : Cond.methodLink R_AR 147 ⟨"AreaRouters", "isLevel", "(I)Z"⟩ ∈ lw_tbl := List.mem_of_getElem? (i := 317) (by decide +kernel)
theorem lk_AR_150 : Cond.methodLink R_AR 150 ⟨"AreaRouters", "hearingAt", "(I)LAreaRouters$Hearing;"⟩ ∈ lw_tbl := List.mem_of_getElem? (i := 320) (by decide +kernel)
theorem lk_AR_154 : Cond.methodLinkNest R_AR 154 ⟨"AreaRouters$Hearing", "isMutual", "(III)Z"⟩ "AreaRouters" ∈ lw_tbl := List.mem_of_getElem? (i := 324) (by decide +kernel)
theorem lk_AR_157 : Cond.methodLink R_AR 157 ⟨"AreaRouters", "speakerSeenBy", "(III)I"⟩ ∈ lw_tbl := List.mem_of_getElem? (i := 336) (by decide +kernel)
theorem lk_AR_161 : Cond.methodLink R_AR 161 ⟨"AreaRouters", "isName", "(I)Z"⟩ ∈ lw_tbl := List.mem_of_getElem? (i := 348) (by decide +kernel)
theorem lk_AR_164 : Cond.methodLinkNest R_AR 164 ⟨"AreaRouters$Base", "tell", "(II)I"⟩ "AreaRouters" ∈ lw_tbl := List.mem_of_getElem? (i := 351) (by decide +kernel)
theorem lk_AR_168 : Cond.methodLinkNest R_AR 168 ⟨"AreaRouters$Base", "marksOf", "(I)I"⟩ "AreaRouters" ∈ lw_tbl := List.mem_of_getElem? (i := 363) (by decide +kernel)
theorem lk_AR_171 : Cond.methodLink R_AR 171 ⟨"AreaRouters", "wayFrom", "(II)I"⟩ ∈ lw_tbl := List.mem_of_getElem? (i := 371) (by decide +kernel)
theorem lk_AR_186 : Cond.methodLinkNest R_AR 186 ⟨"AreaRouters$Hearing", "isHeard", "(III)Z"⟩ "AreaRouters" ∈ lw_tbl := List.mem_of_getElem? (i := 534) (by decide +kernel)
theorem lk_AR_189 : Cond.methodLinkNest R_AR 189 ⟨"AreaRouters$Hearing", "note", "(IIIZ)V"⟩ "AreaRouters" ∈ lw_tbl := List.mem_of_getElem? (i := 538) (by decide +kernel)
theorem lk_AR_193 : Cond.methodLinkNest R_AR 193 ⟨"AreaRouters$Wiring", "priorityOf", "(II)I"⟩ "AreaRouters" ∈ lw_tbl := List.mem_of_getElem? (i := 340) (by decide +kernel)
theorem lk_AR_196 : Cond.methodLinkNest R_AR 196 ⟨"AreaRouters$Draft", "begin", "(I)V"⟩ "AreaRouters" ∈ lw_tbl := List.mem_of_getElem? (i := 616) (by decide +kernel)
theorem lk_AR_199 : Cond.methodLink R_AR 199 ⟨"AreaRouters", "draftItself", "(II)V"⟩ ∈ lw_tbl := List.mem_of_getElem? (i := 620) (by decide +kernel)
theorem lk_AR_202 : Cond.methodLink R_AR 202 ⟨"AreaRouters", "draftCircuit", "(III)Z"⟩ ∈ lw_tbl := List.mem_of_getElem? (i := 646) (by decide +kernel)
theorem lk_AR_205 : Cond.methodLink R_AR 205 ⟨"AreaRouters", "hasLevelTwoNeighbourElsewhere", "(I)Z"⟩ ∈ lw_tbl := List.mem_of_getElem? (i := 624) (by decide +kernel)
theorem lk_AR_212 : Cond.methodLinkNest R_AR 212 ⟨"AreaRouters$Hearing", "firstMutual", "(II)I"⟩ "AreaRouters" ∈ lw_tbl := List.mem_of_getElem? (i := 628) (by decide +kernel)
theorem lk_AR_215 : Cond.methodLink R_AR 215 ⟨"AreaRouters", "nameOf", "(II)I"⟩ ∈ lw_tbl := List.mem_of_getElem? (i := 375) (by decide +kernel)
theorem lk_AR_218 : Cond.methodLinkNest R_AR 218 ⟨"AreaRouters$Wiring", "metricOf", "(II)I"⟩ "AreaRouters" ∈ lw_tbl := List.mem_of_getElem? (i := 638) (by decide +kernel)
theorem lk_AR_221 : Cond.methodLinkNest R_AR 221 ⟨"AreaRouters$Draft", "addLink", "(II)V"⟩ "AreaRouters" ∈ lw_tbl := List.mem_of_getElem? (i := 642) (by decide +kernel)
theorem lk_AR_224 : Cond.methodLink R_AR 224 ⟨"AreaRouters", "draftPart", "(III)Z"⟩ ∈ lw_tbl := List.mem_of_getElem? (i := 612) (by decide +kernel)
theorem lk_AR_227 : Cond.methodLinkNest R_AR 227 ⟨"AreaRouters$Base", "isStillTrue", "(ILAreaRouters$Draft;)Z"⟩ "AreaRouters" ∈ lw_tbl := List.mem_of_getElem? (i := 709) (by decide +kernel)
theorem lk_AR_231 : Cond.methodLinkNest R_AR 231 ⟨"AreaRouters$Base", "renew", "(ILAreaRouters$Draft;I)V"⟩ "AreaRouters" ∈ lw_tbl := List.mem_of_getElem? (i := 650) (by decide +kernel)
theorem lk_AR_235 : Cond.methodLinkNest R_AR 235 ⟨"AreaRouters$Base", "isAlive", "(I)Z"⟩ "AreaRouters" ∈ lw_tbl := List.mem_of_getElem? (i := 606) (by decide +kernel)
theorem lk_AR_238 : Cond.methodLinkNest R_AR 238 ⟨"AreaRouters$Base", "end", "(II)V"⟩ "AreaRouters" ∈ lw_tbl := List.mem_of_getElem? (i := 654) (by decide +kernel)
theorem lk_AR_241 : Cond.methodLinkNest R_AR 241 ⟨"AreaRouters$Base", "orderAgainst", "(LAreaRouters$Base;I)I"⟩ "AreaRouters" ∈ lw_tbl := List.mem_of_getElem? (i := 582) (by decide +kernel)
theorem lk_AR_245 : Cond.methodLinkNest R_AR 245 ⟨"AreaRouters$Base", "copyFrom", "(LAreaRouters$Base;I)V"⟩ "AreaRouters" ∈ lw_tbl := List.mem_of_getElem? (i := 594) (by decide +kernel)
theorem lk_AR_248 : Cond.methodLink R_AR 248 ⟨"AreaRouters", "routerOf", "(I)I"⟩ ∈ lw_tbl := List.mem_of_getElem? (i := 605) (by decide +kernel)
theorem lk_AR_251 : Cond.methodLink R_AR 251 ⟨"AreaRouters", "answerForOwn", "(III)V"⟩ ∈ lw_tbl := List.mem_of_getElem? (i := 607) (by decide +kernel)
theorem lk_AR_254 : Cond.methodLinkNest R_AR 254 ⟨"AreaRouters$Base", "setDueOn", "(II)V"⟩ "AreaRouters" ∈ lw_tbl := List.mem_of_getElem? (i := 659) (by decide +kernel)
theorem lk_AR_257 : Cond.methodLink R_AR 257 ⟨"AreaRouters", "partOf", "(I)I"⟩ ∈ lw_tbl := List.mem_of_getElem? (i := 611) (by decide +kernel)
theorem lk_AR_260 : Cond.methodLinkNest R_AR 260 ⟨"AreaRouters$Base", "askNowhere", "(I)V"⟩ "AreaRouters" ∈ lw_tbl := List.mem_of_getElem? (i := 655) (by decide +kernel)
theorem lk_AR_263 : Cond.methodLinkNest R_AR 263 ⟨"AreaRouters$Ways", "find", "(LAreaRouters$Base;I)V"⟩ "AreaRouters" ∈ lw_tbl := List.mem_of_getElem? (i := 378) (by decide +kernel)
theorem lk_AR_266 : Cond.methodLinkNest R_AR 266 ⟨"AreaRouters$Ways", "wayTo", "(I)I"⟩ "AreaRouters" ∈ lw_tbl := List.mem_of_getElem? (i := 408) (by decide +kernel)
theorem lk_AR_269 : Cond.methodLink R_AR 269 ⟨"AreaRouters", "wayToArea", "(II)I"⟩ ∈ lw_tbl := List.mem_of_getElem? (i := 414) (by decide +kernel)
theorem lk_AR_272 : Cond.methodLink R_AR 272 ⟨"AreaRouters", "wayToExit", "(I)I"⟩ ∈ lw_tbl := List.mem_of_getElem? (i := 422) (by decide +kernel)
theorem lk_AR_276 : Cond.methodLinkNest R_AR 276 ⟨"AreaRouters$Ways", "nearer", "(II)I"⟩ "AreaRouters" ∈ lw_tbl := List.mem_of_getElem? (i := 418) (by decide +kernel)
theorem lk_AR_51 : Cond.methodLink R_AR 51 ⟨"AreaRouters", "isRouter", "(I)Z"⟩ ∈ lw_tbl := List.mem_of_getElem? (i := 254) (by decide +kernel)
theorem lk_AR_55 : Cond.methodLinkNest R_AR 55 ⟨"AreaRouters$Wiring", "circuitsOf", "(I)I"⟩ "AreaRouters" ∈ lw_tbl := List.mem_of_getElem? (i := 257) (by decide +kernel)
theorem lk_AR_59 : Cond.methodLink R_AR 59 ⟨"AreaRouters", "isCircuit", "(I)Z"⟩ ∈ lw_tbl := List.mem_of_getElem? (i := 269) (by decide +kernel)
theorem lk_AR_62 : Cond.methodLinkNest R_AR 62 ⟨"AreaRouters$Wiring", "isAttached", "(II)Z"⟩ "AreaRouters" ∈ lw_tbl := List.mem_of_getElem? (i := 272) (by decide +kernel)
theorem lk_AR_66 : Cond.methodLinkNest R_AR 66 ⟨"AreaRouters$Wiring", "countOn", "(I)I"⟩ "AreaRouters" ∈ lw_tbl := List.mem_of_getElem? (i := 273) (by decide +kernel)
theorem lk_AR_69 : Cond.methodLinkNest R_AR 69 ⟨"AreaRouters$Wiring", "join", "(IIII)V"⟩ "AreaRouters" ∈ lw_tbl := List.mem_of_getElem? (i := 277) (by decide +kernel)
theorem lk_AR_73 : Cond.methodLink R_AR 73 ⟨"AreaRouters", "checkSender", "(II)V"⟩ ∈ lw_tbl := List.mem_of_getElem? (i := 439) (by decide +kernel)
theorem lk_AR_77 : Cond.methodLink R_AR 77 ⟨"AreaRouters", "isMeant", "(II)Z"⟩ ∈ lw_tbl := List.mem_of_getElem? (i := 527) (by decide +kernel)
theorem lk_AR_80 : Cond.methodLink R_AR 80 ⟨"AreaRouters", "noteHello", "(III)V"⟩ ∈ lw_tbl := List.mem_of_getElem? (i := 530) (by decide +kernel)
theorem lk_AR_84 : Cond.methodLink R_AR 84 ⟨"AreaRouters", "checkLevel", "(II)V"⟩ ∈ lw_tbl := List.mem_of_getElem? (i := 550) (by decide +kernel)
theorem lk_AR_87 : Cond.methodLink R_AR 87 ⟨"AreaRouters", "baseOf", "(II)LAreaRouters$Base;"⟩ ∈ lw_tbl := List.mem_of_getElem? (i := 289) (by decide +kernel)
theorem lk_AR_91 : Cond.methodLinkNest R_AR 91 ⟨"AreaRouters$Base", "isDue", "(II)Z"⟩ "AreaRouters" ∈ lw_tbl := List.mem_of_getElem? (i := 570) (by decide +kernel)
theorem lk_AR_94 : Cond.methodLink R_AR 94 ⟨"AreaRouters", "isReached", "(IIIII)Z"⟩ ∈ lw_tbl := List.mem_of_getElem? (i := 574) (by decide +kernel)
theorem lk_AR_98 : Cond.methodLink R_AR 98 ⟨"AreaRouters", "receive", "(IIILAreaRouters$Base;I)V"⟩ ∈ lw_tbl := List.mem_of_getElem? (i := 578) (by decide +kernel)
theorem lk_Wa_22 : Cond.constant R_Wa 22 (1000000) ∈ lw_tbl := List.mem_of_getElem? (i := 382) (by decide +kernel)
end
section
/-! decode rows -/
theorem d_AR_isRouter_0 : decode b_AR_isRouter 0 = .ok (.iload_n 0, 1) := by decide +kernel
theorem d_AR_isRouter_1 : decode b_AR_isRouter 1 = .ok (.ifCond .lt 13, 3) := by decide +kernel
theorem d_AR_isRouter_4 : decode b_AR_isRouter 4 = .ok (.iload_n 0, 1) := by decide +kernel
theorem d_AR_isRouter_5 : decode b_AR_isRouter 5 = .ok (.bipush 6, 2) := by decide +kernel
theorem d_AR_isRouter_7 : decode b_AR_isRouter 7 = .ok (.if_icmp .ge 7, 3) := by decide +kernel
theorem d_AR_isRouter_10 : decode b_AR_isRouter 10 = .ok (.iconst 1, 1) := by decide +kernel
theorem d_AR_isRouter_11 : decode b_AR_isRouter 11 = .ok (.goto 4, 3) := by decide +kernel
theorem d_AR_isRouter_14 : decode b_AR_isRouter 14 = .ok (.iconst 0, 1) := by decide +kernel
theorem d_AR_isRouter_15 : decode b_AR_isRouter 15 = .ok (.ireturn, 1) := by decide +kernel
theorem d_Wi_isAttached_0 : decode b_Wi_isAttached 0 = .ok (.aload_n 0, 1) := by decide +kernel
theorem d_Wi_isAttached_1 : decode b_Wi_isAttached 1 = .ok (.getfield 9, 3) := by decide +kernel
theorem d_Wi_isAttached_4 : decode b_Wi_isAttached 4 = .ok (.iload_n 1, 1) := by decide +kernel
theorem d_Wi_isAttached_5 : decode b_Wi_isAttached 5 = .ok (.bipush 6, 2) := by decide +kernel
theorem d_Wi_isAttached_7 : decode b_Wi_isAttached 7 = .ok (.imul, 1) := by decide +kernel
theorem d_Wi_isAttached_8 : decode b_Wi_isAttached 8 = .ok (.iload_n 2, 1) := by decide +kernel
theorem d_Wi_isAttached_9 : decode b_Wi_isAttached 9 = .ok (.iadd, 1) := by decide +kernel
theorem d_Wi_isAttached_10 : decode b_Wi_isAttached 10 = .ok (.iaload, 1) := by decide +kernel
theorem d_Wi_isAttached_11 : decode b_Wi_isAttached 11 = .ok (.ifCond .le 7, 3) := by decide +kernel
theorem d_Wi_isAttached_14 : decode b_Wi_isAttached 14 = .ok (.iconst 1, 1) := by decide +kernel
theorem d_Wi_isAttached_15 : decode b_Wi_isAttached 15 = .ok (.goto 4, 3) := by decide +kernel
theorem d_Wi_isAttached_18 : decode b_Wi_isAttached 18 = .ok (.iconst 0, 1) := by decide +kernel
theorem d_Wi_isAttached_19 : decode b_Wi_isAttached 19 = .ok (.ireturn, 1) := by decide +kernel
theorem d_Wi_circuitsOf_0 : decode b_Wi_circuitsOf 0 = .ok (.iconst 0, 1) := by decide +kernel
theorem d_Wi_circuitsOf_1 : decode b_Wi_circuitsOf 1 = .ok (.istore_n 2, 1) := by decide +kernel
theorem d_Wi_circuitsOf_2 : decode b_Wi_circuitsOf 2 = .ok (.iconst 0, 1) := by decide +kernel
theorem d_Wi_circuitsOf_3 : decode b_Wi_circuitsOf 3 = .ok (.istore_n 3, 1) := by decide +kernel
theorem d_Wi_circuitsOf_4 : decode b_Wi_circuitsOf 4 = .ok (.iload_n 3, 1) := by decide +kernel
theorem d_Wi_circuitsOf_5 : decode b_Wi_circuitsOf 5 = .ok (.bipush 6, 2) := by decide +kernel
theorem d_Wi_circuitsOf_7 : decode b_Wi_circuitsOf 7 = .ok (.if_icmp .ge 24, 3) := by decide +kernel
theorem d_Wi_circuitsOf_10 : decode b_Wi_circuitsOf 10 = .ok (.aload_n 0, 1) := by decide +kernel
theorem d_Wi_circuitsOf_11 : decode b_Wi_circuitsOf 11 = .ok (.iload_n 1, 1) := by decide +kernel
theorem d_Wi_circuitsOf_12 : decode b_Wi_circuitsOf 12 = .ok (.iload_n 3, 1) := by decide +kernel
theorem d_Wi_circuitsOf_13 : decode b_Wi_circuitsOf 13 = .ok (.invokevirtual 18, 3) := by decide +kernel
theorem d_Wi_circuitsOf_16 : decode b_Wi_circuitsOf 16 = .ok (.ifCond .eq 9, 3) := by decide +kernel
theorem d_Wi_circuitsOf_19 : decode b_Wi_circuitsOf 19 = .ok (.iload_n 2, 1) := by decide +kernel
theorem d_Wi_circuitsOf_20 : decode b_Wi_circuitsOf 20 = .ok (.iconst 1, 1) := by decide +kernel
theorem d_Wi_circuitsOf_21 : decode b_Wi_circuitsOf 21 = .ok (.iload_n 3, 1) := by decide +kernel
theorem d_Wi_circuitsOf_22 : decode b_Wi_circuitsOf 22 = .ok (.ishl, 1) := by decide +kernel
theorem d_Wi_circuitsOf_23 : decode b_Wi_circuitsOf 23 = .ok (.ior, 1) := by decide +kernel
theorem d_Wi_circuitsOf_24 : decode b_Wi_circuitsOf 24 = .ok (.istore_n 2, 1) := by decide +kernel
theorem d_Wi_circuitsOf_25 : decode b_Wi_circuitsOf 25 = .ok (.iinc 3 1, 3) := by decide +kernel
theorem d_Wi_circuitsOf_28 : decode b_Wi_circuitsOf 28 = .ok (.goto (-24), 3) := by decide +kernel
theorem d_Wi_circuitsOf_31 : decode b_Wi_circuitsOf 31 = .ok (.iload_n 2, 1) := by decide +kernel
theorem d_Wi_circuitsOf_32 : decode b_Wi_circuitsOf 32 = .ok (.ireturn, 1) := by decide +kernel
theorem d_AR_place_0 : decode b_AR_place 0 = .ok (.iload_n 1, 1) := by decide +kernel
theorem d_AR_place_1 : decode b_AR_place 1 = .ok (.invokestatic 51, 3) := by decide +kernel
theorem d_AR_place_4 : decode b_AR_place 4 = .ok (.ifCond .eq 22, 3) := by decide +kernel
theorem d_AR_place_7 : decode b_AR_place 7 = .ok (.iload_n 2, 1) := by decide +kernel
theorem d_AR_place_8 : decode b_AR_place 8 = .ok (.ifCond .lt 18, 3) := by decide +kernel
theorem d_AR_place_11 : decode b_AR_place 11 = .ok (.iload_n 2, 1) := by decide +kernel
theorem d_AR_place_12 : decode b_AR_place 12 = .ok (.iconst 3, 1) := by decide +kernel
theorem d_AR_place_13 : decode b_AR_place 13 = .ok (.if_icmp .ge 13, 3) := by decide +kernel
theorem d_AR_place_16 : decode b_AR_place 16 = .ok (.iload_n 3, 1) := by decide +kernel
theorem d_AR_place_17 : decode b_AR_place 17 = .ok (.iconst 1, 1) := by decide +kernel
theorem d_AR_place_18 : decode b_AR_place 18 = .ok (.if_icmp .lt 8, 3) := by decide +kernel
theorem d_AR_place_21 : decode b_AR_place 21 = .ok (.iload_n 3, 1) := by decide +kernel
theorem d_AR_place_22 : decode b_AR_place 22 = .ok (.iconst 3, 1) := by decide +kernel
theorem d_AR_place_23 : decode b_AR_place 23 = .ok (.if_icmp .le 5, 3) := by decide +kernel
theorem d_AR_place_26 : decode b_AR_place 26 = .ok (.iconst 0, 1) := by decide +kernel
theorem d_AR_place_27 : decode b_AR_place 27 = .ok (.ireturn, 1) := by decide +kernel
theorem d_AR_place_28 : decode b_AR_place 28 = .ok (.aload_n 0, 1) := by decide +kernel
theorem d_AR_place_29 : decode b_AR_place 29 = .ok (.getfield 19, 3) := by decide +kernel
theorem d_AR_place_32 : decode b_AR_place 32 = .ok (.iload_n 1, 1) := by decide +kernel
theorem d_AR_place_33 : decode b_AR_place 33 = .ok (.invokevirtual 55, 3) := by decide +kernel
theorem d_AR_place_36 : decode b_AR_place 36 = .ok (.ifCond .eq 5, 3) := by decide +kernel
theorem d_AR_place_39 : decode b_AR_place 39 = .ok (.iconst 0, 1) := by decide +kernel
theorem d_AR_place_40 : decode b_AR_place 40 = .ok (.ireturn, 1) := by decide +kernel
theorem d_AR_place_41 : decode b_AR_place 41 = .ok (.aload_n 0, 1) := by decide +kernel
theorem d_AR_place_42 : decode b_AR_place 42 = .ok (.getfield 9, 3) := by decide +kernel
theorem d_AR_place_45 : decode b_AR_place 45 = .ok (.iload_n 1, 1) := by decide +kernel
theorem d_AR_place_46 : decode b_AR_place 46 = .ok (.iload_n 2, 1) := by decide +kernel
theorem d_AR_place_47 : decode b_AR_place 47 = .ok (.iastore, 1) := by decide +kernel
theorem d_AR_place_48 : decode b_AR_place 48 = .ok (.aload_n 0, 1) := by decide +kernel
theorem d_AR_place_49 : decode b_AR_place 49 = .ok (.getfield 13, 3) := by decide +kernel
theorem d_AR_place_52 : decode b_AR_place 52 = .ok (.iload_n 1, 1) := by decide +kernel
theorem d_AR_place_53 : decode b_AR_place 53 = .ok (.iload_n 3, 1) := by decide +kernel
theorem d_AR_place_54 : decode b_AR_place 54 = .ok (.iastore, 1) := by decide +kernel
theorem d_AR_place_55 : decode b_AR_place 55 = .ok (.iconst 1, 1) := by decide +kernel
theorem d_AR_place_56 : decode b_AR_place 56 = .ok (.ireturn, 1) := by decide +kernel
theorem d_AR_isCircuit_0 : decode b_AR_isCircuit 0 = .ok (.iload_n 0, 1) := by decide +kernel
theorem d_AR_isCircuit_1 : decode b_AR_isCircuit 1 = .ok (.ifCond .lt 13, 3) := by decide +kernel
theorem d_AR_isCircuit_4 : decode b_AR_isCircuit 4 = .ok (.iload_n 0, 1) := by decide +kernel
theorem d_AR_isCircuit_5 : decode b_AR_isCircuit 5 = .ok (.bipush 6, 2) := by decide +kernel
theorem d_AR_isCircuit_7 : decode b_AR_isCircuit 7 = .ok (.if_icmp .ge 7, 3) := by decide +kernel
theorem d_AR_isCircuit_10 : decode b_AR_isCircuit 10 = .ok (.iconst 1, 1) := by decide +kernel
theorem d_AR_isCircuit_11 : decode b_AR_isCircuit 11 = .ok (.goto 4, 3) := by decide +kernel
theorem d_AR_isCircuit_14 : decode b_AR_isCircuit 14 = .ok (.iconst 0, 1) := by decide +kernel
theorem d_AR_isCircuit_15 : decode b_AR_isCircuit 15 = .ok (.ireturn, 1) := by decide +kernel
theorem d_Wi_countOn_0 : decode b_Wi_countOn 0 = .ok (.iconst 0, 1) := by decide +kernel
theorem d_Wi_countOn_1 : decode b_Wi_countOn 1 = .ok (.istore_n 2, 1) := by decide +kernel
theorem d_Wi_countOn_2 : decode b_Wi_countOn 2 = .ok (.iconst 0, 1) := by decide +kernel
theorem d_Wi_countOn_3 : decode b_Wi_countOn 3 = .ok (.istore_n 3, 1) := by decide +kernel
theorem d_Wi_countOn_4 : decode b_Wi_countOn 4 = .ok (.iload_n 3, 1) := by decide +kernel
theorem d_Wi_countOn_5 : decode b_Wi_countOn 5 = .ok (.bipush 6, 2) := by decide +kernel
theorem d_Wi_countOn_7 : decode b_Wi_countOn 7 = .ok (.if_icmp .ge 21, 3) := by decide +kernel
theorem d_Wi_countOn_10 : decode b_Wi_countOn 10 = .ok (.aload_n 0, 1) := by decide +kernel
theorem d_Wi_countOn_11 : decode b_Wi_countOn 11 = .ok (.iload_n 3, 1) := by decide +kernel
theorem d_Wi_countOn_12 : decode b_Wi_countOn 12 = .ok (.iload_n 1, 1) := by decide +kernel
theorem d_Wi_countOn_13 : decode b_Wi_countOn 13 = .ok (.invokevirtual 18, 3) := by decide +kernel
theorem d_Wi_countOn_16 : decode b_Wi_countOn 16 = .ok (.ifCond .eq 6, 3) := by decide +kernel
theorem d_Wi_countOn_19 : decode b_Wi_countOn 19 = .ok (.iinc 2 1, 3) := by decide +kernel
theorem d_Wi_countOn_22 : decode b_Wi_countOn 22 = .ok (.iinc 3 1, 3) := by decide +kernel
theorem d_Wi_countOn_25 : decode b_Wi_countOn 25 = .ok (.goto (-21), 3) := by decide +kernel
theorem d_Wi_countOn_28 : decode b_Wi_countOn 28 = .ok (.iload_n 2, 1) := by decide +kernel
theorem d_Wi_countOn_29 : decode b_Wi_countOn 29 = .ok (.ireturn, 1) := by decide +kernel
theorem d_Wi_join_0 : decode b_Wi_join 0 = .ok (.aload_n 0, 1) := by decide +kernel
theorem d_Wi_join_1 : decode b_Wi_join 1 = .ok (.getfield 9, 3) := by decide +kernel
theorem d_Wi_join_4 : decode b_Wi_join 4 = .ok (.iload_n 1, 1) := by decide +kernel
theorem d_Wi_join_5 : decode b_Wi_join 5 = .ok (.bipush 6, 2) := by decide +kernel
theorem d_Wi_join_7 : decode b_Wi_join 7 = .ok (.imul, 1) := by decide +kernel
theorem d_Wi_join_8 : decode b_Wi_join 8 = .ok (.iload_n 2, 1) := by decide +kernel
theorem d_Wi_join_9 : decode b_Wi_join 9 = .ok (.iadd, 1) := by decide +kernel
theorem d_Wi_join_10 : decode b_Wi_join 10 = .ok (.iload_n 3, 1) := by decide +kernel
theorem d_Wi_join_11 : decode b_Wi_join 11 = .ok (.iastore, 1) := by decide +kernel
theorem d_Wi_join_12 : decode b_Wi_join 12 = .ok (.aload_n 0, 1) := by decide +kernel
theorem d_Wi_join_13 : decode b_Wi_join 13 = .ok (.getfield 15, 3) := by decide +kernel
theorem d_Wi_join_16 : decode b_Wi_join 16 = .ok (.iload_n 1, 1) := by decide +kernel
theorem d_Wi_join_17 : decode b_Wi_join 17 = .ok (.bipush 6, 2) := by decide +kernel
theorem d_Wi_join_19 : decode b_Wi_join 19 = .ok (.imul, 1) := by decide +kernel
theorem d_Wi_join_20 : decode b_Wi_join 20 = .ok (.iload_n 2, 1) := by decide +kernel
theorem d_Wi_join_21 : decode b_Wi_join 21 = .ok (.iadd, 1) := by decide +kernel
theorem d_Wi_join_22 : decode b_Wi_join 22 = .ok (.iload 4, 2) := by decide +kernel
theorem d_Wi_join_24 : decode b_Wi_join 24 = .ok (.iastore, 1) := by decide +kernel
theorem d_Wi_join_25 : decode b_Wi_join 25 = .ok (.return_, 1) := by decide +kernel
theorem d_AR_attach_0 : decode b_AR_attach 0 = .ok (.iload_n 1, 1) := by decide +kernel
theorem d_AR_attach_1 : decode b_AR_attach 1 = .ok (.invokestatic 51, 3) := by decide +kernel
theorem d_AR_attach_4 : decode b_AR_attach 4 = .ok (.ifCond .eq 10, 3) := by decide +kernel
theorem d_AR_attach_7 : decode b_AR_attach 7 = .ok (.iload_n 2, 1) := by decide +kernel
theorem d_AR_attach_8 : decode b_AR_attach 8 = .ok (.invokestatic 59, 3) := by decide +kernel
theorem d_AR_attach_11 : decode b_AR_attach 11 = .ok (.ifCond .ne 5, 3) := by decide +kernel
theorem d_AR_attach_14 : decode b_AR_attach 14 = .ok (.iconst 0, 1) := by decide +kernel
theorem d_AR_attach_15 : decode b_AR_attach 15 = .ok (.ireturn, 1) := by decide +kernel
theorem d_AR_attach_16 : decode b_AR_attach 16 = .ok (.iload_n 3, 1) := by decide +kernel
theorem d_AR_attach_17 : decode b_AR_attach 17 = .ok (.iconst 1, 1) := by decide +kernel
theorem d_AR_attach_18 : decode b_AR_attach 18 = .ok (.if_icmp .lt 21, 3) := by decide +kernel
theorem d_AR_attach_21 : decode b_AR_attach 21 = .ok (.iload_n 3, 1) := by decide +kernel
theorem d_AR_attach_22 : decode b_AR_attach 22 = .ok (.bipush 60, 2) := by decide +kernel
theorem d_AR_attach_24 : decode b_AR_attach 24 = .ok (.if_icmp .gt 15, 3) := by decide +kernel
theorem d_AR_attach_27 : decode b_AR_attach 27 = .ok (.iload 4, 2) := by decide +kernel
theorem d_AR_attach_29 : decode b_AR_attach 29 = .ok (.ifCond .lt 10, 3) := by decide +kernel
theorem d_AR_attach_32 : decode b_AR_attach 32 = .ok (.iload 4, 2) := by decide +kernel
theorem d_AR_attach_34 : decode b_AR_attach 34 = .ok (.bipush 100, 2) := by decide +kernel
theorem d_AR_attach_36 : decode b_AR_attach 36 = .ok (.if_icmp .le 5, 3) := by decide +kernel
theorem d_AR_attach_39 : decode b_AR_attach 39 = .ok (.iconst 0, 1) := by decide +kernel
theorem d_AR_attach_40 : decode b_AR_attach 40 = .ok (.ireturn, 1) := by decide +kernel
theorem d_AR_attach_41 : decode b_AR_attach 41 = .ok (.aload_n 0, 1) := by decide +kernel
theorem d_AR_attach_42 : decode b_AR_attach 42 = .ok (.getfield 19, 3) := by decide +kernel
theorem d_AR_attach_45 : decode b_AR_attach 45 = .ok (.iload_n 1, 1) := by decide +kernel
theorem d_AR_attach_46 : decode b_AR_attach 46 = .ok (.iload_n 2, 1) := by decide +kernel
theorem d_AR_attach_47 : decode b_AR_attach 47 = .ok (.invokevirtual 62, 3) := by decide +kernel
theorem d_AR_attach_50 : decode b_AR_attach 50 = .ok (.ifCond .ne 17, 3) := by decide +kernel
theorem d_AR_attach_53 : decode b_AR_attach 53 = .ok (.aload_n 0, 1) := by decide +kernel
theorem d_AR_attach_54 : decode b_AR_attach 54 = .ok (.getfield 19, 3) := by decide +kernel
theorem d_AR_attach_57 : decode b_AR_attach 57 = .ok (.iload_n 2, 1) := by decide +kernel
theorem d_AR_attach_58 : decode b_AR_attach 58 = .ok (.invokevirtual 66, 3) := by decide +kernel
theorem d_AR_attach_61 : decode b_AR_attach 61 = .ok (.iconst 4, 1) := by decide +kernel
theorem d_AR_attach_62 : decode b_AR_attach 62 = .ok (.if_icmp .lt 5, 3) := by decide +kernel
theorem d_AR_attach_65 : decode b_AR_attach 65 = .ok (.iconst 0, 1) := by decide +kernel
theorem d_AR_attach_66 : decode b_AR_attach 66 = .ok (.ireturn, 1) := by decide +kernel
theorem d_AR_attach_67 : decode b_AR_attach 67 = .ok (.aload_n 0, 1) := by decide +kernel
theorem d_AR_attach_68 : decode b_AR_attach 68 = .ok (.getfield 19, 3) := by decide +kernel
theorem d_AR_attach_71 : decode b_AR_attach 71 = .ok (.iload_n 1, 1) := by decide +kernel
theorem d_AR_attach_72 : decode b_AR_attach 72 = .ok (.iload_n 2, 1) := by decide +kernel
theorem d_AR_attach_73 : decode b_AR_attach 73 = .ok (.iload_n 3, 1) := by decide +kernel
theorem d_AR_attach_74 : decode b_AR_attach 74 = .ok (.iload 4, 2) := by decide +kernel
theorem d_AR_attach_76 : decode b_AR_attach 76 = .ok (.invokevirtual 69, 3) := by decide +kernel
theorem d_AR_attach_79 : decode b_AR_attach 79 = .ok (.iconst 1, 1) := by decide +kernel
theorem d_AR_attach_80 : decode b_AR_attach 80 = .ok (.ireturn, 1) := by decide +kernel
theorem d_AR_checkSender_0 : decode b_AR_checkSender 0 = .ok (.iload_n 1, 1) := by decide +kernel
theorem d_AR_checkSender_1 : decode b_AR_checkSender 1 = .ok (.invokestatic 51, 3) := by decide +kernel
theorem d_AR_checkSender_4 : decode b_AR_checkSender 4 = .ok (.ifCond .eq 10, 3) := by decide +kernel
theorem d_AR_checkSender_7 : decode b_AR_checkSender 7 = .ok (.iload_n 2, 1) := by decide +kernel
theorem d_AR_checkSender_8 : decode b_AR_checkSender 8 = .ok (.invokestatic 59, 3) := by decide +kernel
theorem d_AR_checkSender_11 : decode b_AR_checkSender 11 = .ok (.ifCond .ne 13, 3) := by decide +kernel
theorem d_AR_checkSender_24 : decode b_AR_checkSender 24 = .ok (.aload_n 0, 1) := by decide +kernel
theorem d_AR_checkSender_25 : decode b_AR_checkSender 25 = .ok (.getfield 19, 3) := by decide +kernel
theorem d_AR_checkSender_28 : decode b_AR_checkSender 28 = .ok (.iload_n 1, 1) := by decide +kernel
theorem d_AR_checkSender_29 : decode b_AR_checkSender 29 = .ok (.iload_n 2, 1) := by decide +kernel
theorem d_AR_checkSender_30 : decode b_AR_checkSender 30 = .ok (.invokevirtual 62, 3) := by decide +kernel
theorem d_AR_checkSender_33 : decode b_AR_checkSender 33 = .ok (.ifCond .ne 13, 3) := by decide +kernel
theorem d_AR_checkSender_46 : decode b_AR_checkSender 46 = .ok (.return_, 1) := by decide +kernel
theorem d_AR_isMeant_0 : decode b_AR_isMeant 0 = .ok (.iload_n 1, 1) := by decide +kernel
theorem d_AR_isMeant_1 : decode b_AR_isMeant 1 = .ok (.iload_n 0, 1) := by decide +kernel
theorem d_AR_isMeant_2 : decode b_AR_isMeant 2 = .ok (.ishr, 1) := by decide +kernel
theorem d_AR_isMeant_3 : decode b_AR_isMeant 3 = .ok (.iconst 1, 1) := by decide +kernel
theorem d_AR_isMeant_4 : decode b_AR_isMeant 4 = .ok (.iand, 1) := by decide +kernel
theorem d_AR_isMeant_5 : decode b_AR_isMeant 5 = .ok (.ifCond .eq 7, 3) := by decide +kernel
theorem d_AR_isMeant_8 : decode b_AR_isMeant 8 = .ok (.iconst 1, 1) := by decide +kernel
theorem d_AR_isMeant_9 : decode b_AR_isMeant 9 = .ok (.goto 4, 3) := by decide +kernel
theorem d_AR_isMeant_12 : decode b_AR_isMeant 12 = .ok (.iconst 0, 1) := by decide +kernel
theorem d_AR_isMeant_13 : decode b_AR_isMeant 13 = .ok (.ireturn, 1) := by decide +kernel
theorem d_AR_isLevel_0 : decode b_AR_isLevel 0 = .ok (.iload_n 0, 1) := by decide +kernel
theorem d_AR_isLevel_1 : decode b_AR_isLevel 1 = .ok (.iconst 1, 1) := by decide +kernel
theorem d_AR_isLevel_2 : decode b_AR_isLevel 2 = .ok (.if_icmp .lt 12, 3) := by decide +kernel
theorem d_AR_isLevel_5 : decode b_AR_isLevel 5 = .ok (.iload_n 0, 1) := by decide +kernel
theorem d_AR_isLevel_6 : decode b_AR_isLevel 6 = .ok (.iconst 2, 1) := by decide +kernel
theorem d_AR_isLevel_7 : decode b_AR_isLevel 7 = .ok (.if_icmp .gt 7, 3) := by decide +kernel
theorem d_AR_isLevel_10 : decode b_AR_isLevel 10 = .ok (.iconst 1, 1) := by decide +kernel
theorem d_AR_isLevel_11 : decode b_AR_isLevel 11 = .ok (.goto 4, 3) := by decide +kernel
theorem d_AR_isLevel_14 : decode b_AR_isLevel 14 = .ok (.iconst 0, 1) := by decide +kernel
theorem d_AR_isLevel_15 : decode b_AR_isLevel 15 = .ok (.ireturn, 1) := by decide +kernel
theorem d_AR_hasLevel_0 : decode b_AR_hasLevel 0 = .ok (.iload_n 2, 1) := by decide +kernel
theorem d_AR_hasLevel_1 : decode b_AR_hasLevel 1 = .ok (.invokestatic 147, 3) := by decide +kernel
theorem d_AR_hasLevel_4 : decode b_AR_hasLevel 4 = .ok (.ifCond .eq 18, 3) := by decide +kernel
theorem d_AR_hasLevel_7 : decode b_AR_hasLevel 7 = .ok (.aload_n 0, 1) := by decide +kernel
theorem d_AR_hasLevel_8 : decode b_AR_hasLevel 8 = .ok (.getfield 13, 3) := by decide +kernel
theorem d_AR_hasLevel_11 : decode b_AR_hasLevel 11 = .ok (.iload_n 1, 1) := by decide +kernel
theorem d_AR_hasLevel_12 : decode b_AR_hasLevel 12 = .ok (.iaload, 1) := by decide +kernel
theorem d_AR_hasLevel_13 : decode b_AR_hasLevel 13 = .ok (.iload_n 2, 1) := by decide +kernel
theorem d_AR_hasLevel_14 : decode b_AR_hasLevel 14 = .ok (.iand, 1) := by decide +kernel
theorem d_AR_hasLevel_15 : decode b_AR_hasLevel 15 = .ok (.ifCond .eq 7, 3) := by decide +kernel
theorem d_AR_hasLevel_18 : decode b_AR_hasLevel 18 = .ok (.iconst 1, 1) := by decide +kernel
theorem d_AR_hasLevel_19 : decode b_AR_hasLevel 19 = .ok (.goto 4, 3) := by decide +kernel
theorem d_AR_hasLevel_22 : decode b_AR_hasLevel 22 = .ok (.iconst 0, 1) := by decide +kernel
theorem d_AR_hasLevel_23 : decode b_AR_hasLevel 23 = .ok (.ireturn, 1) := by decide +kernel
theorem d_AR_hearingAt_0 : decode b_AR_hearingAt 0 = .ok (.aload_n 0, 1) := by decide +kernel
theorem d_AR_hearingAt_1 : decode b_AR_hearingAt 1 = .ok (.getfield 25, 3) := by decide +kernel
theorem d_AR_hearingAt_4 : decode b_AR_hearingAt 4 = .ok (.iload_n 1, 1) := by decide +kernel
theorem d_AR_hearingAt_5 : decode b_AR_hearingAt 5 = .ok (.iconst 1, 1) := by decide +kernel
theorem d_AR_hearingAt_6 : decode b_AR_hearingAt 6 = .ok (.isub, 1) := by decide +kernel
theorem d_AR_hearingAt_7 : decode b_AR_hearingAt 7 = .ok (.aaload, 1) := by decide +kernel
theorem d_AR_hearingAt_8 : decode b_AR_hearingAt 8 = .ok (.areturn, 1) := by decide +kernel
theorem d_He_isHeard_0 : decode b_He_isHeard 0 = .ok (.aload_n 0, 1) := by decide +kernel
theorem d_He_isHeard_1 : decode b_He_isHeard 1 = .ok (.getfield 11, 3) := by decide +kernel
theorem d_He_isHeard_4 : decode b_He_isHeard 4 = .ok (.iload_n 1, 1) := by decide +kernel
theorem d_He_isHeard_5 : decode b_He_isHeard 5 = .ok (.bipush 6, 2) := by decide +kernel
theorem d_He_isHeard_7 : decode b_He_isHeard 7 = .ok (.imul, 1) := by decide +kernel
theorem d_He_isHeard_8 : decode b_He_isHeard 8 = .ok (.iload_n 2, 1) := by decide +kernel
theorem d_He_isHeard_9 : decode b_He_isHeard 9 = .ok (.iadd, 1) := by decide +kernel
theorem d_He_isHeard_10 : decode b_He_isHeard 10 = .ok (.bipush 6, 2) := by decide +kernel
theorem d_He_isHeard_12 : decode b_He_isHeard 12 = .ok (.imul, 1) := by decide +kernel
theorem d_He_isHeard_13 : decode b_He_isHeard 13 = .ok (.iload_n 3, 1) := by decide +kernel
theorem d_He_isHeard_14 : decode b_He_isHeard 14 = .ok (.iadd, 1) := by decide +kernel
theorem d_He_isHeard_15 : decode b_He_isHeard 15 = .ok (.iaload, 1) := by decide +kernel
theorem d_He_isHeard_16 : decode b_He_isHeard 16 = .ok (.ifCond .le 7, 3) := by decide +kernel
theorem d_He_isHeard_19 : decode b_He_isHeard 19 = .ok (.iconst 1, 1) := by decide +kernel
theorem d_He_isHeard_20 : decode b_He_isHeard 20 = .ok (.goto 4, 3) := by decide +kernel
theorem d_He_isHeard_23 : decode b_He_isHeard 23 = .ok (.iconst 0, 1) := by decide +kernel
theorem d_He_isHeard_24 : decode b_He_isHeard 24 = .ok (.ireturn, 1) := by decide +kernel
theorem d_He_note_0 : decode b_He_note 0 = .ok (.iload_n 1, 1) := by decide +kernel
theorem d_He_note_1 : decode b_He_note 1 = .ok (.bipush 6, 2) := by decide +kernel
theorem d_He_note_3 : decode b_He_note 3 = .ok (.imul, 1) := by decide +kernel
theorem d_He_note_4 : decode b_He_note 4 = .ok (.iload_n 2, 1) := by decide +kernel
theorem d_He_note_5 : decode b_He_note 5 = .ok (.iadd, 1) := by decide +kernel
theorem d_He_note_6 : decode b_He_note 6 = .ok (.bipush 6, 2) := by decide +kernel
theorem d_He_note_8 : decode b_He_note 8 = .ok (.imul, 1) := by decide +kernel
theorem d_He_note_9 : decode b_He_note 9 = .ok (.iload_n 3, 1) := by decide +kernel
theorem d_He_note_10 : decode b_He_note 10 = .ok (.iadd, 1) := by decide +kernel
theorem d_He_note_11 : decode b_He_note 11 = .ok (.istore 5, 2) := by decide +kernel
theorem d_He_note_13 : decode b_He_note 13 = .ok (.aload_n 0, 1) := by decide +kernel
theorem d_He_note_14 : decode b_He_note 14 = .ok (.getfield 11, 3) := by decide +kernel
theorem d_He_note_17 : decode b_He_note 17 = .ok (.iload 5, 2) := by decide +kernel
theorem d_He_note_19 : decode b_He_note 19 = .ok (.iconst 4, 1) := by decide +kernel
theorem d_He_note_20 : decode b_He_note 20 = .ok (.iastore, 1) := by decide +kernel
theorem d_He_note_21 : decode b_He_note 21 = .ok (.aload_n 0, 1) := by decide +kernel
theorem d_He_note_22 : decode b_He_note 22 = .ok (.getfield 15, 3) := by decide +kernel
theorem d_He_note_25 : decode b_He_note 25 = .ok (.iload 5, 2) := by decide +kernel
theorem d_He_note_27 : decode b_He_note 27 = .ok (.iload 4, 2) := by decide +kernel
theorem d_He_note_29 : decode b_He_note 29 = .ok (.bastore, 1) := by decide +kernel
theorem d_He_note_30 : decode b_He_note 30 = .ok (.return_, 1) := by decide +kernel
theorem d_AR_noteHello_0 : decode b_AR_noteHello 0 = .ok (.iconst 1, 1) := by decide +kernel
theorem d_AR_noteHello_1 : decode b_AR_noteHello 1 = .ok (.istore 4, 2) := by decide +kernel
theorem d_AR_noteHello_3 : decode b_AR_noteHello 3 = .ok (.iload 4, 2) := by decide +kernel
theorem d_AR_noteHello_5 : decode b_AR_noteHello 5 = .ok (.iconst 2, 1) := by decide +kernel
theorem d_AR_noteHello_6 : decode b_AR_noteHello 6 = .ok (.if_icmp .gt 86, 3) := by decide +kernel
theorem d_AR_noteHello_9 : decode b_AR_noteHello 9 = .ok (.aload_n 0, 1) := by decide +kernel
theorem d_AR_noteHello_10 : decode b_AR_noteHello 10 = .ok (.iload_n 1, 1) := by decide +kernel
theorem d_AR_noteHello_11 : decode b_AR_noteHello 11 = .ok (.iload 4, 2) := by decide +kernel
theorem d_AR_noteHello_13 : decode b_AR_noteHello 13 = .ok (.invokevirtual 134, 3) := by decide +kernel
theorem d_AR_noteHello_16 : decode b_AR_noteHello 16 = .ok (.ifCond .eq 17, 3) := by decide +kernel
theorem d_AR_noteHello_19 : decode b_AR_noteHello 19 = .ok (.aload_n 0, 1) := by decide +kernel
theorem d_AR_noteHello_20 : decode b_AR_noteHello 20 = .ok (.iload_n 3, 1) := by decide +kernel
theorem d_AR_noteHello_21 : decode b_AR_noteHello 21 = .ok (.iload 4, 2) := by decide +kernel
theorem d_AR_noteHello_23 : decode b_AR_noteHello 23 = .ok (.invokevirtual 134, 3) := by decide +kernel
theorem d_AR_noteHello_26 : decode b_AR_noteHello 26 = .ok (.ifCond .eq 7, 3) := by decide +kernel
theorem d_AR_noteHello_29 : decode b_AR_noteHello 29 = .ok (.iconst 1, 1) := by decide +kernel
theorem d_AR_noteHello_30 : decode b_AR_noteHello 30 = .ok (.goto 4, 3) := by decide +kernel
theorem d_AR_noteHello_33 : decode b_AR_noteHello 33 = .ok (.iconst 0, 1) := by decide +kernel
theorem d_AR_noteHello_34 : decode b_AR_noteHello 34 = .ok (.istore 5, 2) := by decide +kernel
theorem d_AR_noteHello_36 : decode b_AR_noteHello 36 = .ok (.iload 5, 2) := by decide +kernel
theorem d_AR_noteHello_38 : decode b_AR_noteHello 38 = .ok (.ifCond .eq 48, 3) := by decide +kernel
theorem d_AR_noteHello_41 : decode b_AR_noteHello 41 = .ok (.iload 4, 2) := by decide +kernel
theorem d_AR_noteHello_43 : decode b_AR_noteHello 43 = .ok (.iconst 2, 1) := by decide +kernel
theorem d_AR_noteHello_44 : decode b_AR_noteHello 44 = .ok (.if_icmp .eq 18, 3) := by decide +kernel
theorem d_AR_noteHello_47 : decode b_AR_noteHello 47 = .ok (.aload_n 0, 1) := by decide +kernel
theorem d_AR_noteHello_48 : decode b_AR_noteHello 48 = .ok (.getfield 9, 3) := by decide +kernel
theorem d_AR_noteHello_51 : decode b_AR_noteHello 51 = .ok (.iload_n 1, 1) := by decide +kernel
theorem d_AR_noteHello_52 : decode b_AR_noteHello 52 = .ok (.iaload, 1) := by decide +kernel
theorem d_AR_noteHello_53 : decode b_AR_noteHello 53 = .ok (.aload_n 0, 1) := by decide +kernel
theorem d_AR_noteHello_54 : decode b_AR_noteHello 54 = .ok (.getfield 9, 3) := by decide +kernel
theorem d_AR_noteHello_57 : decode b_AR_noteHello 57 = .ok (.iload_n 3, 1) := by decide +kernel
theorem d_AR_noteHello_58 : decode b_AR_noteHello 58 = .ok (.iaload, 1) := by decide +kernel
theorem d_AR_noteHello_59 : decode b_AR_noteHello 59 = .ok (.if_icmp .ne 27, 3) := by decide +kernel
theorem d_AR_noteHello_62 : decode b_AR_noteHello 62 = .ok (.aload_n 0, 1) := by decide +kernel
theorem d_AR_noteHello_63 : decode b_AR_noteHello 63 = .ok (.iload 4, 2) := by decide +kernel
theorem d_AR_noteHello_65 : decode b_AR_noteHello 65 = .ok (.invokevirtual 150, 3) := by decide +kernel
theorem d_AR_noteHello_68 : decode b_AR_noteHello 68 = .ok (.astore 6, 2) := by decide +kernel
theorem d_AR_noteHello_70 : decode b_AR_noteHello 70 = .ok (.aload 6, 2) := by decide +kernel
theorem d_AR_noteHello_72 : decode b_AR_noteHello 72 = .ok (.iload_n 1, 1) := by decide +kernel
theorem d_AR_noteHello_73 : decode b_AR_noteHello 73 = .ok (.iload_n 2, 1) := by decide +kernel
theorem d_AR_noteHello_74 : decode b_AR_noteHello 74 = .ok (.iload_n 3, 1) := by decide +kernel
theorem d_AR_noteHello_75 : decode b_AR_noteHello 75 = .ok (.aload 6, 2) := by decide +kernel
theorem d_AR_noteHello_77 : decode b_AR_noteHello 77 = .ok (.iload_n 3, 1) := by decide +kernel
theorem d_AR_noteHello_78 : decode b_AR_noteHello 78 = .ok (.iload_n 2, 1) := by decide +kernel
theorem d_AR_noteHello_79 : decode b_AR_noteHello 79 = .ok (.iload_n 1, 1) := by decide +kernel
theorem d_AR_noteHello_80 : decode b_AR_noteHello 80 = .ok (.invokevirtual 186, 3) := by decide +kernel
theorem d_AR_noteHello_83 : decode b_AR_noteHello 83 = .ok (.invokevirtual 189, 3) := by decide +kernel
theorem d_AR_noteHello_86 : decode b_AR_noteHello 86 = .ok (.iinc 4 1, 3) := by decide +kernel
theorem d_AR_noteHello_89 : decode b_AR_noteHello 89 = .ok (.goto (-86), 3) := by decide +kernel
theorem d_AR_noteHello_92 : decode b_AR_noteHello 92 = .ok (.return_, 1) := by decide +kernel
theorem d_AR_hello_0 : decode b_AR_hello 0 = .ok (.aload_n 0, 1) := by decide +kernel
theorem d_AR_hello_1 : decode b_AR_hello 1 = .ok (.iload_n 1, 1) := by decide +kernel
theorem d_AR_hello_2 : decode b_AR_hello 2 = .ok (.iload_n 2, 1) := by decide +kernel
theorem d_AR_hello_3 : decode b_AR_hello 3 = .ok (.invokevirtual 73, 3) := by decide +kernel
theorem d_AR_hello_6 : decode b_AR_hello 6 = .ok (.iconst 0, 1) := by decide +kernel
theorem d_AR_hello_7 : decode b_AR_hello 7 = .ok (.istore 4, 2) := by decide +kernel
theorem d_AR_hello_9 : decode b_AR_hello 9 = .ok (.iconst 0, 1) := by decide +kernel
theorem d_AR_hello_10 : decode b_AR_hello 10 = .ok (.istore 5, 2) := by decide +kernel
theorem d_AR_hello_12 : decode b_AR_hello 12 = .ok (.iload 5, 2) := by decide +kernel
theorem d_AR_hello_14 : decode b_AR_hello 14 = .ok (.bipush 6, 2) := by decide +kernel
theorem d_AR_hello_16 : decode b_AR_hello 16 = .ok (.if_icmp .ge 48, 3) := by decide +kernel
theorem d_AR_hello_19 : decode b_AR_hello 19 = .ok (.iload 5, 2) := by decide +kernel
theorem d_AR_hello_21 : decode b_AR_hello 21 = .ok (.iload_n 1, 1) := by decide +kernel
theorem d_AR_hello_22 : decode b_AR_hello 22 = .ok (.if_icmp .eq 36, 3) := by decide +kernel
theorem d_AR_hello_25 : decode b_AR_hello 25 = .ok (.iload 5, 2) := by decide +kernel
theorem d_AR_hello_27 : decode b_AR_hello 27 = .ok (.iload_n 3, 1) := by decide +kernel
theorem d_AR_hello_28 : decode b_AR_hello 28 = .ok (.invokestatic 77, 3) := by decide +kernel
theorem d_AR_hello_31 : decode b_AR_hello 31 = .ok (.ifCond .eq 27, 3) := by decide +kernel
theorem d_AR_hello_34 : decode b_AR_hello 34 = .ok (.aload_n 0, 1) := by decide +kernel
theorem d_AR_hello_35 : decode b_AR_hello 35 = .ok (.getfield 19, 3) := by decide +kernel
theorem d_AR_hello_38 : decode b_AR_hello 38 = .ok (.iload 5, 2) := by decide +kernel
theorem d_AR_hello_40 : decode b_AR_hello 40 = .ok (.iload_n 2, 1) := by decide +kernel
theorem d_AR_hello_41 : decode b_AR_hello 41 = .ok (.invokevirtual 62, 3) := by decide +kernel
theorem d_AR_hello_44 : decode b_AR_hello 44 = .ok (.ifCond .eq 14, 3) := by decide +kernel
theorem d_AR_hello_47 : decode b_AR_hello 47 = .ok (.aload_n 0, 1) := by decide +kernel
theorem d_AR_hello_48 : decode b_AR_hello 48 = .ok (.iload 5, 2) := by decide +kernel
theorem d_AR_hello_50 : decode b_AR_hello 50 = .ok (.iload_n 2, 1) := by decide +kernel
theorem d_AR_hello_51 : decode b_AR_hello 51 = .ok (.iload_n 1, 1) := by decide +kernel
theorem d_AR_hello_52 : decode b_AR_hello 52 = .ok (.invokevirtual 80, 3) := by decide +kernel
theorem d_AR_hello_55 : decode b_AR_hello 55 = .ok (.iinc 4 1, 3) := by decide +kernel
theorem d_AR_hello_58 : decode b_AR_hello 58 = .ok (.iinc 5 1, 3) := by decide +kernel
theorem d_AR_hello_61 : decode b_AR_hello 61 = .ok (.goto (-49), 3) := by decide +kernel
theorem d_AR_hello_64 : decode b_AR_hello 64 = .ok (.iload 4, 2) := by decide +kernel
theorem d_AR_hello_66 : decode b_AR_hello 66 = .ok (.ireturn, 1) := by decide +kernel
theorem d_AR_checkLevel_0 : decode b_AR_checkLevel 0 = .ok (.aload_n 0, 1) := by decide +kernel
theorem d_AR_checkLevel_1 : decode b_AR_checkLevel 1 = .ok (.iload_n 1, 1) := by decide +kernel
theorem d_AR_checkLevel_2 : decode b_AR_checkLevel 2 = .ok (.iload_n 2, 1) := by decide +kernel
theorem d_AR_checkLevel_3 : decode b_AR_checkLevel 3 = .ok (.invokevirtual 134, 3) := by decide +kernel
theorem d_AR_checkLevel_6 : decode b_AR_checkLevel 6 = .ok (.ifCond .ne 13, 3) := by decide +kernel
theorem d_AR_checkLevel_19 : decode b_AR_checkLevel 19 = .ok (.return_, 1) := by decide +kernel
theorem d_AR_baseOf_0 : decode b_AR_baseOf 0 = .ok (.aload_n 0, 1) := by decide +kernel
theorem d_AR_baseOf_1 : decode b_AR_baseOf 1 = .ok (.getfield 32, 3) := by decide +kernel
theorem d_AR_baseOf_4 : decode b_AR_baseOf 4 = .ok (.iload_n 2, 1) := by decide +kernel
theorem d_AR_baseOf_5 : decode b_AR_baseOf 5 = .ok (.iconst 1, 1) := by decide +kernel
theorem d_AR_baseOf_6 : decode b_AR_baseOf 6 = .ok (.isub, 1) := by decide +kernel
theorem d_AR_baseOf_7 : decode b_AR_baseOf 7 = .ok (.bipush 6, 2) := by decide +kernel
theorem d_AR_baseOf_9 : decode b_AR_baseOf 9 = .ok (.imul, 1) := by decide +kernel
theorem d_AR_baseOf_10 : decode b_AR_baseOf 10 = .ok (.iload_n 1, 1) := by decide +kernel
theorem d_AR_baseOf_11 : decode b_AR_baseOf 11 = .ok (.iadd, 1) := by decide +kernel
theorem d_AR_baseOf_12 : decode b_AR_baseOf 12 = .ok (.aaload, 1) := by decide +kernel
theorem d_AR_baseOf_13 : decode b_AR_baseOf 13 = .ok (.areturn, 1) := by decide +kernel
theorem d_Ba_isDue_0 : decode b_Ba_isDue 0 = .ok (.aload_n 0, 1) := by decide +kernel
theorem d_Ba_isDue_1 : decode b_Ba_isDue 1 = .ok (.getfield 37, 3) := by decide +kernel
theorem d_Ba_isDue_4 : decode b_Ba_isDue 4 = .ok (.iload_n 1, 1) := by decide +kernel
theorem d_Ba_isDue_5 : decode b_Ba_isDue 5 = .ok (.iaload, 1) := by decide +kernel
theorem d_Ba_isDue_6 : decode b_Ba_isDue 6 = .ok (.iload_n 2, 1) := by decide +kernel
theorem d_Ba_isDue_7 : decode b_Ba_isDue 7 = .ok (.ishr, 1) := by decide +kernel
theorem d_Ba_isDue_8 : decode b_Ba_isDue 8 = .ok (.iconst 1, 1) := by decide +kernel
theorem d_Ba_isDue_9 : decode b_Ba_isDue 9 = .ok (.iand, 1) := by decide +kernel
theorem d_Ba_isDue_10 : decode b_Ba_isDue 10 = .ok (.ifCond .eq 7, 3) := by decide +kernel
theorem d_Ba_isDue_13 : decode b_Ba_isDue 13 = .ok (.iconst 1, 1) := by decide +kernel
theorem d_Ba_isDue_14 : decode b_Ba_isDue 14 = .ok (.goto 4, 3) := by decide +kernel
theorem d_Ba_isDue_17 : decode b_Ba_isDue 17 = .ok (.iconst 0, 1) := by decide +kernel
theorem d_Ba_isDue_18 : decode b_Ba_isDue 18 = .ok (.ireturn, 1) := by decide +kernel
theorem d_He_isMutual_0 : decode b_He_isMutual 0 = .ok (.iload_n 1, 1) := by decide +kernel
theorem d_He_isMutual_1 : decode b_He_isMutual 1 = .ok (.bipush 6, 2) := by decide +kernel
theorem d_He_isMutual_3 : decode b_He_isMutual 3 = .ok (.imul, 1) := by decide +kernel
theorem d_He_isMutual_4 : decode b_He_isMutual 4 = .ok (.iload_n 2, 1) := by decide +kernel
theorem d_He_isMutual_5 : decode b_He_isMutual 5 = .ok (.iadd, 1) := by decide +kernel
theorem d_He_isMutual_6 : decode b_He_isMutual 6 = .ok (.bipush 6, 2) := by decide +kernel
theorem d_He_isMutual_8 : decode b_He_isMutual 8 = .ok (.imul, 1) := by decide +kernel
theorem d_He_isMutual_9 : decode b_He_isMutual 9 = .ok (.iload_n 3, 1) := by decide +kernel
theorem d_He_isMutual_10 : decode b_He_isMutual 10 = .ok (.iadd, 1) := by decide +kernel
theorem d_He_isMutual_11 : decode b_He_isMutual 11 = .ok (.istore 4, 2) := by decide +kernel
theorem d_He_isMutual_13 : decode b_He_isMutual 13 = .ok (.aload_n 0, 1) := by decide +kernel
theorem d_He_isMutual_14 : decode b_He_isMutual 14 = .ok (.getfield 11, 3) := by decide +kernel
theorem d_He_isMutual_17 : decode b_He_isMutual 17 = .ok (.iload 4, 2) := by decide +kernel
theorem d_He_isMutual_19 : decode b_He_isMutual 19 = .ok (.iaload, 1) := by decide +kernel
theorem d_He_isMutual_20 : decode b_He_isMutual 20 = .ok (.ifCond .le 17, 3) := by decide +kernel
theorem d_He_isMutual_23 : decode b_He_isMutual 23 = .ok (.aload_n 0, 1) := by decide +kernel
theorem d_He_isMutual_24 : decode b_He_isMutual 24 = .ok (.getfield 15, 3) := by decide +kernel
theorem d_He_isMutual_27 : decode b_He_isMutual 27 = .ok (.iload 4, 2) := by decide +kernel
theorem d_He_isMutual_29 : decode b_He_isMutual 29 = .ok (.baload, 1) := by decide +kernel
theorem d_He_isMutual_30 : decode b_He_isMutual 30 = .ok (.ifCond .eq 7, 3) := by decide +kernel
theorem d_He_isMutual_33 : decode b_He_isMutual 33 = .ok (.iconst 1, 1) := by decide +kernel
theorem d_He_isMutual_34 : decode b_He_isMutual 34 = .ok (.goto 4, 3) := by decide +kernel
theorem d_He_isMutual_37 : decode b_He_isMutual 37 = .ok (.iconst 0, 1) := by decide +kernel
theorem d_He_isMutual_38 : decode b_He_isMutual 38 = .ok (.ireturn, 1) := by decide +kernel
theorem d_AR_isReached_0 : decode b_AR_isReached 0 = .ok (.iload_n 1, 1) := by decide +kernel
theorem d_AR_isReached_1 : decode b_AR_isReached 1 = .ok (.iload 5, 2) := by decide +kernel
theorem d_AR_isReached_3 : decode b_AR_isReached 3 = .ok (.invokestatic 77, 3) := by decide +kernel
theorem d_AR_isReached_6 : decode b_AR_isReached 6 = .ok (.ifCond .eq 22, 3) := by decide +kernel
theorem d_AR_isReached_9 : decode b_AR_isReached 9 = .ok (.aload_n 0, 1) := by decide +kernel
theorem d_AR_isReached_10 : decode b_AR_isReached 10 = .ok (.iload 4, 2) := by decide +kernel
theorem d_AR_isReached_12 : decode b_AR_isReached 12 = .ok (.invokevirtual 150, 3) := by decide +kernel
theorem d_AR_isReached_15 : decode b_AR_isReached 15 = .ok (.iload_n 1, 1) := by decide +kernel
theorem d_AR_isReached_16 : decode b_AR_isReached 16 = .ok (.iload_n 3, 1) := by decide +kernel
theorem d_AR_isReached_17 : decode b_AR_isReached 17 = .ok (.iload_n 2, 1) := by decide +kernel
theorem d_AR_isReached_18 : decode b_AR_isReached 18 = .ok (.invokevirtual 154, 3) := by decide +kernel
theorem d_AR_isReached_21 : decode b_AR_isReached 21 = .ok (.ifCond .eq 7, 3) := by decide +kernel
theorem d_AR_isReached_24 : decode b_AR_isReached 24 = .ok (.iconst 1, 1) := by decide +kernel
theorem d_AR_isReached_25 : decode b_AR_isReached 25 = .ok (.goto 4, 3) := by decide +kernel
theorem d_AR_isReached_28 : decode b_AR_isReached 28 = .ok (.iconst 0, 1) := by decide +kernel
theorem d_AR_isReached_29 : decode b_AR_isReached 29 = .ok (.ireturn, 1) := by decide +kernel
theorem d_Ba_isAlive_0 : decode b_Ba_isAlive 0 = .ok (.aload_n 0, 1) := by decide +kernel
theorem d_Ba_isAlive_1 : decode b_Ba_isAlive 1 = .ok (.getfield 18, 3) := by decide +kernel
theorem d_Ba_isAlive_4 : decode b_Ba_isAlive 4 = .ok (.iload_n 1, 1) := by decide +kernel
theorem d_Ba_isAlive_5 : decode b_Ba_isAlive 5 = .ok (.iaload, 1) := by decide +kernel
theorem d_Ba_isAlive_6 : decode b_Ba_isAlive 6 = .ok (.ifCond .le 7, 3) := by decide +kernel
theorem d_Ba_isAlive_9 : decode b_Ba_isAlive 9 = .ok (.iconst 1, 1) := by decide +kernel
theorem d_Ba_isAlive_10 : decode b_Ba_isAlive 10 = .ok (.goto 4, 3) := by decide +kernel
theorem d_Ba_isAlive_13 : decode b_Ba_isAlive 13 = .ok (.iconst 0, 1) := by decide +kernel
theorem d_Ba_isAlive_14 : decode b_Ba_isAlive 14 = .ok (.ireturn, 1) := by decide +kernel
theorem d_Ba_orderAgainst_0 : decode b_Ba_orderAgainst 0 = .ok (.aload_n 0, 1) := by decide +kernel
theorem d_Ba_orderAgainst_1 : decode b_Ba_orderAgainst 1 = .ok (.getfield 9, 3) := by decide +kernel
theorem d_Ba_orderAgainst_4 : decode b_Ba_orderAgainst 4 = .ok (.iload_n 2, 1) := by decide +kernel
theorem d_Ba_orderAgainst_5 : decode b_Ba_orderAgainst 5 = .ok (.iaload, 1) := by decide +kernel
theorem d_Ba_orderAgainst_6 : decode b_Ba_orderAgainst 6 = .ok (.aload_n 1, 1) := by decide +kernel
theorem d_Ba_orderAgainst_7 : decode b_Ba_orderAgainst 7 = .ok (.getfield 9, 3) := by decide +kernel
theorem d_Ba_orderAgainst_10 : decode b_Ba_orderAgainst 10 = .ok (.iload_n 2, 1) := by decide +kernel
theorem d_Ba_orderAgainst_11 : decode b_Ba_orderAgainst 11 = .ok (.iaload, 1) := by decide +kernel
theorem d_Ba_orderAgainst_12 : decode b_Ba_orderAgainst 12 = .ok (.if_icmp .eq 17, 3) := by decide +kernel
theorem d_Ba_orderAgainst_15 : decode b_Ba_orderAgainst 15 = .ok (.aload_n 0, 1) := by decide +kernel
theorem d_Ba_orderAgainst_16 : decode b_Ba_orderAgainst 16 = .ok (.getfield 9, 3) := by decide +kernel
theorem d_Ba_orderAgainst_19 : decode b_Ba_orderAgainst 19 = .ok (.iload_n 2, 1) := by decide +kernel
theorem d_Ba_orderAgainst_20 : decode b_Ba_orderAgainst 20 = .ok (.iaload, 1) := by decide +kernel
theorem d_Ba_orderAgainst_21 : decode b_Ba_orderAgainst 21 = .ok (.aload_n 1, 1) := by decide +kernel
theorem d_Ba_orderAgainst_22 : decode b_Ba_orderAgainst 22 = .ok (.getfield 9, 3) := by decide +kernel
theorem d_Ba_orderAgainst_25 : decode b_Ba_orderAgainst 25 = .ok (.iload_n 2, 1) := by decide +kernel
theorem d_Ba_orderAgainst_26 : decode b_Ba_orderAgainst 26 = .ok (.iaload, 1) := by decide +kernel
theorem d_Ba_orderAgainst_27 : decode b_Ba_orderAgainst 27 = .ok (.isub, 1) := by decide +kernel
theorem d_Ba_orderAgainst_28 : decode b_Ba_orderAgainst 28 = .ok (.ireturn, 1) := by decide +kernel
theorem d_Ba_orderAgainst_29 : decode b_Ba_orderAgainst 29 = .ok (.aload_n 0, 1) := by decide +kernel
theorem d_Ba_orderAgainst_30 : decode b_Ba_orderAgainst 30 = .ok (.iload_n 2, 1) := by decide +kernel
theorem d_Ba_orderAgainst_31 : decode b_Ba_orderAgainst 31 = .ok (.invokevirtual 51, 3) := by decide +kernel
theorem d_Ba_orderAgainst_34 : decode b_Ba_orderAgainst 34 = .ok (.aload_n 1, 1) := by decide +kernel
theorem d_Ba_orderAgainst_35 : decode b_Ba_orderAgainst 35 = .ok (.iload_n 2, 1) := by decide +kernel
theorem d_Ba_orderAgainst_36 : decode b_Ba_orderAgainst 36 = .ok (.invokevirtual 51, 3) := by decide +kernel
theorem d_Ba_orderAgainst_39 : decode b_Ba_orderAgainst 39 = .ok (.if_icmp .ne 5, 3) := by decide +kernel
theorem d_Ba_orderAgainst_42 : decode b_Ba_orderAgainst 42 = .ok (.iconst 0, 1) := by decide +kernel
theorem d_Ba_orderAgainst_43 : decode b_Ba_orderAgainst 43 = .ok (.ireturn, 1) := by decide +kernel
theorem d_Ba_orderAgainst_44 : decode b_Ba_orderAgainst 44 = .ok (.aload_n 0, 1) := by decide +kernel
theorem d_Ba_orderAgainst_45 : decode b_Ba_orderAgainst 45 = .ok (.iload_n 2, 1) := by decide +kernel
theorem d_Ba_orderAgainst_46 : decode b_Ba_orderAgainst 46 = .ok (.invokevirtual 51, 3) := by decide +kernel
theorem d_Ba_orderAgainst_49 : decode b_Ba_orderAgainst 49 = .ok (.ifCond .eq 7, 3) := by decide +kernel
theorem d_Ba_orderAgainst_52 : decode b_Ba_orderAgainst 52 = .ok (.iconst (-1), 1) := by decide +kernel
theorem d_Ba_orderAgainst_53 : decode b_Ba_orderAgainst 53 = .ok (.goto 4, 3) := by decide +kernel
theorem d_Ba_orderAgainst_56 : decode b_Ba_orderAgainst 56 = .ok (.iconst 1, 1) := by decide +kernel
theorem d_Ba_orderAgainst_57 : decode b_Ba_orderAgainst 57 = .ok (.ireturn, 1) := by decide +kernel
theorem d_Ba_setDue_0 : decode b_Ba_setDue 0 = .ok (.aload_n 0, 1) := by decide +kernel
theorem d_Ba_setDue_1 : decode b_Ba_setDue 1 = .ok (.getfield 37, 3) := by decide +kernel
theorem d_Ba_setDue_4 : decode b_Ba_setDue 4 = .ok (.iload_n 1, 1) := by decide +kernel
theorem d_Ba_setDue_5 : decode b_Ba_setDue 5 = .ok (.iload_n 3, 1) := by decide +kernel
theorem d_Ba_setDue_6 : decode b_Ba_setDue 6 = .ok (.ifCond .eq 16, 3) := by decide +kernel
theorem d_Ba_setDue_9 : decode b_Ba_setDue 9 = .ok (.aload_n 0, 1) := by decide +kernel
theorem d_Ba_setDue_10 : decode b_Ba_setDue 10 = .ok (.getfield 37, 3) := by decide +kernel
theorem d_Ba_setDue_13 : decode b_Ba_setDue 13 = .ok (.iload_n 1, 1) := by decide +kernel
theorem d_Ba_setDue_14 : decode b_Ba_setDue 14 = .ok (.iaload, 1) := by decide +kernel
theorem d_Ba_setDue_15 : decode b_Ba_setDue 15 = .ok (.iconst 1, 1) := by decide +kernel
theorem d_Ba_setDue_16 : decode b_Ba_setDue 16 = .ok (.iload_n 2, 1) := by decide +kernel
theorem d_Ba_setDue_17 : decode b_Ba_setDue 17 = .ok (.ishl, 1) := by decide +kernel
theorem d_Ba_setDue_18 : decode b_Ba_setDue 18 = .ok (.ior, 1) := by decide +kernel
theorem d_Ba_setDue_19 : decode b_Ba_setDue 19 = .ok (.goto 15, 3) := by decide +kernel
theorem d_Ba_setDue_22 : decode b_Ba_setDue 22 = .ok (.aload_n 0, 1) := by decide +kernel
theorem d_Ba_setDue_23 : decode b_Ba_setDue 23 = .ok (.getfield 37, 3) := by decide +kernel
theorem d_Ba_setDue_26 : decode b_Ba_setDue 26 = .ok (.iload_n 1, 1) := by decide +kernel
theorem d_Ba_setDue_27 : decode b_Ba_setDue 27 = .ok (.iaload, 1) := by decide +kernel
theorem d_Ba_setDue_28 : decode b_Ba_setDue 28 = .ok (.iconst 1, 1) := by decide +kernel
theorem d_Ba_setDue_29 : decode b_Ba_setDue 29 = .ok (.iload_n 2, 1) := by decide +kernel
theorem d_Ba_setDue_30 : decode b_Ba_setDue 30 = .ok (.ishl, 1) := by decide +kernel
theorem d_Ba_setDue_31 : decode b_Ba_setDue 31 = .ok (.iconst (-1), 1) := by decide +kernel
theorem d_Ba_setDue_32 : decode b_Ba_setDue 32 = .ok (.ixor, 1) := by decide +kernel
theorem d_Ba_setDue_33 : decode b_Ba_setDue 33 = .ok (.iand, 1) := by decide +kernel
theorem d_Ba_setDue_34 : decode b_Ba_setDue 34 = .ok (.iastore, 1) := by decide +kernel
theorem d_Ba_setDue_35 : decode b_Ba_setDue 35 = .ok (.return_, 1) := by decide +kernel
theorem d_Ba_setAsked_0 : decode b_Ba_setAsked 0 = .ok (.aload_n 0, 1) := by decide +kernel
theorem d_Ba_setAsked_1 : decode b_Ba_setAsked 1 = .ok (.getfield 40, 3) := by decide +kernel
theorem d_Ba_setAsked_4 : decode b_Ba_setAsked 4 = .ok (.iload_n 1, 1) := by decide +kernel
theorem d_Ba_setAsked_5 : decode b_Ba_setAsked 5 = .ok (.iload_n 3, 1) := by decide +kernel
theorem d_Ba_setAsked_6 : decode b_Ba_setAsked 6 = .ok (.ifCond .eq 16, 3) := by decide +kernel
theorem d_Ba_setAsked_9 : decode b_Ba_setAsked 9 = .ok (.aload_n 0, 1) := by decide +kernel
theorem d_Ba_setAsked_10 : decode b_Ba_setAsked 10 = .ok (.getfield 40, 3) := by decide +kernel
theorem d_Ba_setAsked_13 : decode b_Ba_setAsked 13 = .ok (.iload_n 1, 1) := by decide +kernel
theorem d_Ba_setAsked_14 : decode b_Ba_setAsked 14 = .ok (.iaload, 1) := by decide +kernel
theorem d_Ba_setAsked_15 : decode b_Ba_setAsked 15 = .ok (.iconst 1, 1) := by decide +kernel
theorem d_Ba_setAsked_16 : decode b_Ba_setAsked 16 = .ok (.iload_n 2, 1) := by decide +kernel
theorem d_Ba_setAsked_17 : decode b_Ba_setAsked 17 = .ok (.ishl, 1) := by decide +kernel
theorem d_Ba_setAsked_18 : decode b_Ba_setAsked 18 = .ok (.ior, 1) := by decide +kernel
theorem d_Ba_setAsked_19 : decode b_Ba_setAsked 19 = .ok (.goto 15, 3) := by decide +kernel
theorem d_Ba_setAsked_22 : decode b_Ba_setAsked 22 = .ok (.aload_n 0, 1) := by decide +kernel
theorem d_Ba_setAsked_23 : decode b_Ba_setAsked 23 = .ok (.getfield 40, 3) := by decide +kernel
theorem d_Ba_setAsked_26 : decode b_Ba_setAsked 26 = .ok (.iload_n 1, 1) := by decide +kernel
theorem d_Ba_setAsked_27 : decode b_Ba_setAsked 27 = .ok (.iaload, 1) := by decide +kernel
theorem d_Ba_setAsked_28 : decode b_Ba_setAsked 28 = .ok (.iconst 1, 1) := by decide +kernel
theorem d_Ba_setAsked_29 : decode b_Ba_setAsked 29 = .ok (.iload_n 2, 1) := by decide +kernel
theorem d_Ba_setAsked_30 : decode b_Ba_setAsked 30 = .ok (.ishl, 1) := by decide +kernel
theorem d_Ba_setAsked_31 : decode b_Ba_setAsked 31 = .ok (.iconst (-1), 1) := by decide +kernel
theorem d_Ba_setAsked_32 : decode b_Ba_setAsked 32 = .ok (.ixor, 1) := by decide +kernel
theorem d_Ba_setAsked_33 : decode b_Ba_setAsked 33 = .ok (.iand, 1) := by decide +kernel
theorem d_Ba_setAsked_34 : decode b_Ba_setAsked 34 = .ok (.iastore, 1) := by decide +kernel
theorem d_Ba_setAsked_35 : decode b_Ba_setAsked 35 = .ok (.return_, 1) := by decide +kernel
theorem d_Ba_takeLinks_0 : decode b_Ba_takeLinks 0 = .ok (.aload_n 0, 1) := by decide +kernel
theorem d_Ba_takeLinks_1 : decode b_Ba_takeLinks 1 = .ok (.getfield 31, 3) := by decide +kernel
theorem d_Ba_takeLinks_4 : decode b_Ba_takeLinks 4 = .ok (.iload_n 1, 1) := by decide +kernel
theorem d_Ba_takeLinks_5 : decode b_Ba_takeLinks 5 = .ok (.iload 4, 2) := by decide +kernel
theorem d_Ba_takeLinks_7 : decode b_Ba_takeLinks 7 = .ok (.iastore, 1) := by decide +kernel
theorem d_Ba_takeLinks_8 : decode b_Ba_takeLinks 8 = .ok (.iconst 0, 1) := by decide +kernel
theorem d_Ba_takeLinks_9 : decode b_Ba_takeLinks 9 = .ok (.istore 5, 2) := by decide +kernel
theorem d_Ba_takeLinks_11 : decode b_Ba_takeLinks 11 = .ok (.iload 5, 2) := by decide +kernel
theorem d_Ba_takeLinks_13 : decode b_Ba_takeLinks 13 = .ok (.iload 4, 2) := by decide +kernel
theorem d_Ba_takeLinks_15 : decode b_Ba_takeLinks 15 = .ok (.if_icmp .ge 27, 3) := by decide +kernel
theorem d_Ba_takeLinks_18 : decode b_Ba_takeLinks 18 = .ok (.aload_n 0, 1) := by decide +kernel
theorem d_Ba_takeLinks_19 : decode b_Ba_takeLinks 19 = .ok (.getfield 34, 3) := by decide +kernel
theorem d_Ba_takeLinks_22 : decode b_Ba_takeLinks 22 = .ok (.iload_n 1, 1) := by decide +kernel
theorem d_Ba_takeLinks_23 : decode b_Ba_takeLinks 23 = .ok (.bipush 10, 2) := by decide +kernel
theorem d_Ba_takeLinks_25 : decode b_Ba_takeLinks 25 = .ok (.imul, 1) := by decide +kernel
theorem d_Ba_takeLinks_26 : decode b_Ba_takeLinks 26 = .ok (.iload 5, 2) := by decide +kernel
theorem d_Ba_takeLinks_28 : decode b_Ba_takeLinks 28 = .ok (.iadd, 1) := by decide +kernel
theorem d_Ba_takeLinks_29 : decode b_Ba_takeLinks 29 = .ok (.aload_n 2, 1) := by decide +kernel
theorem d_Ba_takeLinks_30 : decode b_Ba_takeLinks 30 = .ok (.iload_n 3, 1) := by decide +kernel
theorem d_Ba_takeLinks_31 : decode b_Ba_takeLinks 31 = .ok (.iload 5, 2) := by decide +kernel
theorem d_Ba_takeLinks_33 : decode b_Ba_takeLinks 33 = .ok (.iadd, 1) := by decide +kernel
theorem d_Ba_takeLinks_34 : decode b_Ba_takeLinks 34 = .ok (.iaload, 1) := by decide +kernel
theorem d_Ba_takeLinks_35 : decode b_Ba_takeLinks 35 = .ok (.iastore, 1) := by decide +kernel
theorem d_Ba_takeLinks_36 : decode b_Ba_takeLinks 36 = .ok (.iinc 5 1, 3) := by decide +kernel
theorem d_Ba_takeLinks_39 : decode b_Ba_takeLinks 39 = .ok (.goto (-28), 3) := by decide +kernel
theorem d_Ba_takeLinks_42 : decode b_Ba_takeLinks 42 = .ok (.return_, 1) := by decide +kernel
theorem d_Ba_copyFrom_0 : decode b_Ba_copyFrom 0 = .ok (.aload_n 0, 1) := by decide +kernel
theorem d_Ba_copyFrom_1 : decode b_Ba_copyFrom 1 = .ok (.getfield 9, 3) := by decide +kernel
theorem d_Ba_copyFrom_4 : decode b_Ba_copyFrom 4 = .ok (.iload_n 2, 1) := by decide +kernel
theorem d_Ba_copyFrom_5 : decode b_Ba_copyFrom 5 = .ok (.aload_n 1, 1) := by decide +kernel
theorem d_Ba_copyFrom_6 : decode b_Ba_copyFrom 6 = .ok (.getfield 9, 3) := by decide +kernel
theorem d_Ba_copyFrom_9 : decode b_Ba_copyFrom 9 = .ok (.iload_n 2, 1) := by decide +kernel
theorem d_Ba_copyFrom_10 : decode b_Ba_copyFrom 10 = .ok (.iaload, 1) := by decide +kernel
theorem d_Ba_copyFrom_11 : decode b_Ba_copyFrom 11 = .ok (.iastore, 1) := by decide +kernel
theorem d_Ba_copyFrom_12 : decode b_Ba_copyFrom 12 = .ok (.aload_n 0, 1) := by decide +kernel
theorem d_Ba_copyFrom_13 : decode b_Ba_copyFrom 13 = .ok (.getfield 15, 3) := by decide +kernel
theorem d_Ba_copyFrom_16 : decode b_Ba_copyFrom 16 = .ok (.iload_n 2, 1) := by decide +kernel
theorem d_Ba_copyFrom_17 : decode b_Ba_copyFrom 17 = .ok (.aload_n 0, 1) := by decide +kernel
theorem d_Ba_copyFrom_18 : decode b_Ba_copyFrom 18 = .ok (.getfield 15, 3) := by decide +kernel
theorem d_Ba_copyFrom_21 : decode b_Ba_copyFrom 21 = .ok (.iload_n 2, 1) := by decide +kernel
theorem d_Ba_copyFrom_22 : decode b_Ba_copyFrom 22 = .ok (.iaload, 1) := by decide +kernel
theorem d_Ba_copyFrom_23 : decode b_Ba_copyFrom 23 = .ok (.aload_n 0, 1) := by decide +kernel
theorem d_Ba_copyFrom_24 : decode b_Ba_copyFrom 24 = .ok (.getfield 9, 3) := by decide +kernel
theorem d_Ba_copyFrom_27 : decode b_Ba_copyFrom 27 = .ok (.iload_n 2, 1) := by decide +kernel
theorem d_Ba_copyFrom_28 : decode b_Ba_copyFrom 28 = .ok (.iaload, 1) := by decide +kernel
theorem d_Ba_copyFrom_29 : decode b_Ba_copyFrom 29 = .ok (.invokestatic 87, 3) := by decide +kernel
theorem d_Ba_copyFrom_32 : decode b_Ba_copyFrom 32 = .ok (.iastore, 1) := by decide +kernel
theorem d_Ba_copyFrom_33 : decode b_Ba_copyFrom 33 = .ok (.aload_n 0, 1) := by decide +kernel
theorem d_Ba_copyFrom_34 : decode b_Ba_copyFrom 34 = .ok (.getfield 18, 3) := by decide +kernel
theorem d_Ba_copyFrom_37 : decode b_Ba_copyFrom 37 = .ok (.iload_n 2, 1) := by decide +kernel
theorem d_Ba_copyFrom_38 : decode b_Ba_copyFrom 38 = .ok (.aload_n 1, 1) := by decide +kernel
theorem d_Ba_copyFrom_39 : decode b_Ba_copyFrom 39 = .ok (.getfield 18, 3) := by decide +kernel
theorem d_Ba_copyFrom_42 : decode b_Ba_copyFrom 42 = .ok (.iload_n 2, 1) := by decide +kernel
theorem d_Ba_copyFrom_43 : decode b_Ba_copyFrom 43 = .ok (.iaload, 1) := by decide +kernel
theorem d_Ba_copyFrom_44 : decode b_Ba_copyFrom 44 = .ok (.iastore, 1) := by decide +kernel
theorem d_Ba_copyFrom_45 : decode b_Ba_copyFrom 45 = .ok (.aload_n 0, 1) := by decide +kernel
theorem d_Ba_copyFrom_46 : decode b_Ba_copyFrom 46 = .ok (.getfield 21, 3) := by decide +kernel
theorem d_Ba_copyFrom_49 : decode b_Ba_copyFrom 49 = .ok (.iload_n 2, 1) := by decide +kernel
theorem d_Ba_copyFrom_50 : decode b_Ba_copyFrom 50 = .ok (.iconst 0, 1) := by decide +kernel
theorem d_Ba_copyFrom_51 : decode b_Ba_copyFrom 51 = .ok (.iastore, 1) := by decide +kernel
theorem d_Ba_copyFrom_52 : decode b_Ba_copyFrom 52 = .ok (.aload_n 0, 1) := by decide +kernel
theorem d_Ba_copyFrom_53 : decode b_Ba_copyFrom 53 = .ok (.getfield 24, 3) := by decide +kernel
theorem d_Ba_copyFrom_56 : decode b_Ba_copyFrom 56 = .ok (.iload_n 2, 1) := by decide +kernel
theorem d_Ba_copyFrom_57 : decode b_Ba_copyFrom 57 = .ok (.aload_n 1, 1) := by decide +kernel
theorem d_Ba_copyFrom_58 : decode b_Ba_copyFrom 58 = .ok (.getfield 24, 3) := by decide +kernel
theorem d_Ba_copyFrom_61 : decode b_Ba_copyFrom 61 = .ok (.iload_n 2, 1) := by decide +kernel
theorem d_Ba_copyFrom_62 : decode b_Ba_copyFrom 62 = .ok (.baload, 1) := by decide +kernel
theorem d_Ba_copyFrom_63 : decode b_Ba_copyFrom 63 = .ok (.bastore, 1) := by decide +kernel
theorem d_Ba_copyFrom_64 : decode b_Ba_copyFrom 64 = .ok (.aload_n 0, 1) := by decide +kernel
theorem d_Ba_copyFrom_65 : decode b_Ba_copyFrom 65 = .ok (.getfield 28, 3) := by decide +kernel
theorem d_Ba_copyFrom_68 : decode b_Ba_copyFrom 68 = .ok (.iload_n 2, 1) := by decide +kernel
theorem d_Ba_copyFrom_69 : decode b_Ba_copyFrom 69 = .ok (.aload_n 1, 1) := by decide +kernel
theorem d_Ba_copyFrom_70 : decode b_Ba_copyFrom 70 = .ok (.getfield 28, 3) := by decide +kernel
theorem d_Ba_copyFrom_73 : decode b_Ba_copyFrom 73 = .ok (.iload_n 2, 1) := by decide +kernel
theorem d_Ba_copyFrom_74 : decode b_Ba_copyFrom 74 = .ok (.iaload, 1) := by decide +kernel
theorem d_Ba_copyFrom_75 : decode b_Ba_copyFrom 75 = .ok (.iastore, 1) := by decide +kernel
theorem d_Ba_copyFrom_76 : decode b_Ba_copyFrom 76 = .ok (.aload_n 0, 1) := by decide +kernel
theorem d_Ba_copyFrom_77 : decode b_Ba_copyFrom 77 = .ok (.iload_n 2, 1) := by decide +kernel
theorem d_Ba_copyFrom_78 : decode b_Ba_copyFrom 78 = .ok (.aload_n 1, 1) := by decide +kernel
theorem d_Ba_copyFrom_79 : decode b_Ba_copyFrom 79 = .ok (.getfield 34, 3) := by decide +kernel
theorem d_Ba_copyFrom_82 : decode b_Ba_copyFrom 82 = .ok (.iload_n 2, 1) := by decide +kernel
theorem d_Ba_copyFrom_83 : decode b_Ba_copyFrom 83 = .ok (.bipush 10, 2) := by decide +kernel
theorem d_Ba_copyFrom_85 : decode b_Ba_copyFrom 85 = .ok (.imul, 1) := by decide +kernel
theorem d_Ba_copyFrom_86 : decode b_Ba_copyFrom 86 = .ok (.aload_n 1, 1) := by decide +kernel
theorem d_Ba_copyFrom_87 : decode b_Ba_copyFrom 87 = .ok (.getfield 31, 3) := by decide +kernel
theorem d_Ba_copyFrom_90 : decode b_Ba_copyFrom 90 = .ok (.iload_n 2, 1) := by decide +kernel
theorem d_Ba_copyFrom_91 : decode b_Ba_copyFrom 91 = .ok (.iaload, 1) := by decide +kernel
theorem d_Ba_copyFrom_92 : decode b_Ba_copyFrom 92 = .ok (.invokevirtual 83, 3) := by decide +kernel
theorem d_Ba_copyFrom_95 : decode b_Ba_copyFrom 95 = .ok (.return_, 1) := by decide +kernel
theorem d_AR_routerOf_0 : decode b_AR_routerOf 0 = .ok (.iload_n 0, 1) := by decide +kernel
theorem d_AR_routerOf_1 : decode b_AR_routerOf 1 = .ok (.bipush 7, 2) := by decide +kernel
theorem d_AR_routerOf_3 : decode b_AR_routerOf 3 = .ok (.idiv, 1) := by decide +kernel
theorem d_AR_routerOf_4 : decode b_AR_routerOf 4 = .ok (.ireturn, 1) := by decide +kernel
theorem d_AR_partOf_0 : decode b_AR_partOf 0 = .ok (.iload_n 0, 1) := by decide +kernel
theorem d_AR_partOf_1 : decode b_AR_partOf 1 = .ok (.bipush 7, 2) := by decide +kernel
theorem d_AR_partOf_3 : decode b_AR_partOf 3 = .ok (.irem, 1) := by decide +kernel
theorem d_AR_partOf_4 : decode b_AR_partOf 4 = .ok (.ireturn, 1) := by decide +kernel
theorem d_Dr_begin_0 : decode b_Dr_begin 0 = .ok (.aload_n 0, 1) := by decide +kernel
theorem d_Dr_begin_1 : decode b_Dr_begin 1 = .ok (.iconst 0, 1) := by decide +kernel
theorem d_Dr_begin_2 : decode b_Dr_begin 2 = .ok (.putfield 15, 3) := by decide +kernel
theorem d_Dr_begin_5 : decode b_Dr_begin 5 = .ok (.aload_n 0, 1) := by decide +kernel
theorem d_Dr_begin_6 : decode b_Dr_begin 6 = .ok (.iload_n 1, 1) := by decide +kernel
theorem d_Dr_begin_7 : decode b_Dr_begin 7 = .ok (.putfield 19, 3) := by decide +kernel
theorem d_Dr_begin_10 : decode b_Dr_begin 10 = .ok (.aload_n 0, 1) := by decide +kernel
theorem d_Dr_begin_11 : decode b_Dr_begin 11 = .ok (.iconst 0, 1) := by decide +kernel
theorem d_Dr_begin_12 : decode b_Dr_begin 12 = .ok (.putfield 22, 3) := by decide +kernel
theorem d_Dr_begin_15 : decode b_Dr_begin 15 = .ok (.return_, 1) := by decide +kernel
theorem d_AR_hasLevelTwoNeighbourElsewhere_0 : decode b_AR_hasLevelTwoNeighbourElsewhere 0 = .ok (.iconst 0, 1) := by decide +kernel
theorem d_AR_hasLevelTwoNeighbourElsewhere_1 : decode b_AR_hasLevelTwoNeighbourElsewhere 1 = .ok (.istore_n 2, 1) := by decide +kernel
theorem d_AR_hasLevelTwoNeighbourElsewhere_2 : decode b_AR_hasLevelTwoNeighbourElsewhere 2 = .ok (.iload_n 2, 1) := by decide +kernel
theorem d_AR_hasLevelTwoNeighbourElsewhere_3 : decode b_AR_hasLevelTwoNeighbourElsewhere 3 = .ok (.bipush 6, 2) := by decide +kernel
theorem d_AR_hasLevelTwoNeighbourElsewhere_5 : decode b_AR_hasLevelTwoNeighbourElsewhere 5 = .ok (.if_icmp .ge 54, 3) := by decide +kernel
theorem d_AR_hasLevelTwoNeighbourElsewhere_8 : decode b_AR_hasLevelTwoNeighbourElsewhere 8 = .ok (.iconst 0, 1) := by decide +kernel
theorem d_AR_hasLevelTwoNeighbourElsewhere_9 : decode b_AR_hasLevelTwoNeighbourElsewhere 9 = .ok (.istore_n 3, 1) := by decide +kernel
theorem d_AR_hasLevelTwoNeighbourElsewhere_10 : decode b_AR_hasLevelTwoNeighbourElsewhere 10 = .ok (.iload_n 3, 1) := by decide +kernel
theorem d_AR_hasLevelTwoNeighbourElsewhere_11 : decode b_AR_hasLevelTwoNeighbourElsewhere 11 = .ok (.bipush 6, 2) := by decide +kernel
theorem d_AR_hasLevelTwoNeighbourElsewhere_13 : decode b_AR_hasLevelTwoNeighbourElsewhere 13 = .ok (.if_icmp .ge 40, 3) := by decide +kernel
theorem d_AR_hasLevelTwoNeighbourElsewhere_16 : decode b_AR_hasLevelTwoNeighbourElsewhere 16 = .ok (.aload_n 0, 1) := by decide +kernel
theorem d_AR_hasLevelTwoNeighbourElsewhere_17 : decode b_AR_hasLevelTwoNeighbourElsewhere 17 = .ok (.getfield 9, 3) := by decide +kernel
theorem d_AR_hasLevelTwoNeighbourElsewhere_20 : decode b_AR_hasLevelTwoNeighbourElsewhere 20 = .ok (.iload_n 3, 1) := by decide +kernel
theorem d_AR_hasLevelTwoNeighbourElsewhere_21 : decode b_AR_hasLevelTwoNeighbourElsewhere 21 = .ok (.iaload, 1) := by decide +kernel
theorem d_AR_hasLevelTwoNeighbourElsewhere_22 : decode b_AR_hasLevelTwoNeighbourElsewhere 22 = .ok (.aload_n 0, 1) := by decide +kernel
theorem d_AR_hasLevelTwoNeighbourElsewhere_23 : decode b_AR_hasLevelTwoNeighbourElsewhere 23 = .ok (.getfield 9, 3) := by decide +kernel
theorem d_AR_hasLevelTwoNeighbourElsewhere_26 : decode b_AR_hasLevelTwoNeighbourElsewhere 26 = .ok (.iload_n 1, 1) := by decide +kernel
theorem d_AR_hasLevelTwoNeighbourElsewhere_27 : decode b_AR_hasLevelTwoNeighbourElsewhere 27 = .ok (.iaload, 1) := by decide +kernel
theorem d_AR_hasLevelTwoNeighbourElsewhere_28 : decode b_AR_hasLevelTwoNeighbourElsewhere 28 = .ok (.if_icmp .eq 19, 3) := by decide +kernel
theorem d_AR_hasLevelTwoNeighbourElsewhere_31 : decode b_AR_hasLevelTwoNeighbourElsewhere 31 = .ok (.aload_n 0, 1) := by decide +kernel
theorem d_AR_hasLevelTwoNeighbourElsewhere_32 : decode b_AR_hasLevelTwoNeighbourElsewhere 32 = .ok (.iconst 2, 1) := by decide +kernel
theorem d_AR_hasLevelTwoNeighbourElsewhere_33 : decode b_AR_hasLevelTwoNeighbourElsewhere 33 = .ok (.invokevirtual 150, 3) := by decide +kernel
theorem d_AR_hasLevelTwoNeighbourElsewhere_36 : decode b_AR_hasLevelTwoNeighbourElsewhere 36 = .ok (.iload_n 1, 1) := by decide +kernel
theorem d_AR_hasLevelTwoNeighbourElsewhere_37 : decode b_AR_hasLevelTwoNeighbourElsewhere 37 = .ok (.iload_n 2, 1) := by decide +kernel
theorem d_AR_hasLevelTwoNeighbourElsewhere_38 : decode b_AR_hasLevelTwoNeighbourElsewhere 38 = .ok (.iload_n 3, 1) := by decide +kernel
theorem d_AR_hasLevelTwoNeighbourElsewhere_39 : decode b_AR_hasLevelTwoNeighbourElsewhere 39 = .ok (.invokevirtual 154, 3) := by decide +kernel
theorem d_AR_hasLevelTwoNeighbourElsewhere_42 : decode b_AR_hasLevelTwoNeighbourElsewhere 42 = .ok (.ifCond .eq 5, 3) := by decide +kernel
theorem d_AR_hasLevelTwoNeighbourElsewhere_45 : decode b_AR_hasLevelTwoNeighbourElsewhere 45 = .ok (.iconst 1, 1) := by decide +kernel
theorem d_AR_hasLevelTwoNeighbourElsewhere_46 : decode b_AR_hasLevelTwoNeighbourElsewhere 46 = .ok (.ireturn, 1) := by decide +kernel
theorem d_AR_hasLevelTwoNeighbourElsewhere_47 : decode b_AR_hasLevelTwoNeighbourElsewhere 47 = .ok (.iinc 3 1, 3) := by decide +kernel
theorem d_AR_hasLevelTwoNeighbourElsewhere_50 : decode b_AR_hasLevelTwoNeighbourElsewhere 50 = .ok (.goto (-40), 3) := by decide +kernel
theorem d_AR_hasLevelTwoNeighbourElsewhere_53 : decode b_AR_hasLevelTwoNeighbourElsewhere 53 = .ok (.iinc 2 1, 3) := by decide +kernel
theorem d_AR_hasLevelTwoNeighbourElsewhere_56 : decode b_AR_hasLevelTwoNeighbourElsewhere 56 = .ok (.goto (-54), 3) := by decide +kernel
theorem d_AR_hasLevelTwoNeighbourElsewhere_59 : decode b_AR_hasLevelTwoNeighbourElsewhere 59 = .ok (.iconst 0, 1) := by decide +kernel
theorem d_AR_hasLevelTwoNeighbourElsewhere_60 : decode b_AR_hasLevelTwoNeighbourElsewhere 60 = .ok (.ireturn, 1) := by decide +kernel
theorem d_He_firstMutual_0 : decode b_He_firstMutual 0 = .ok (.iconst 0, 1) := by decide +kernel
theorem d_He_firstMutual_1 : decode b_He_firstMutual 1 = .ok (.istore_n 3, 1) := by decide +kernel
theorem d_He_firstMutual_2 : decode b_He_firstMutual 2 = .ok (.iload_n 3, 1) := by decide +kernel
theorem d_He_firstMutual_3 : decode b_He_firstMutual 3 = .ok (.bipush 6, 2) := by decide +kernel
theorem d_He_firstMutual_5 : decode b_He_firstMutual 5 = .ok (.if_icmp .ge 21, 3) := by decide +kernel
theorem d_He_firstMutual_8 : decode b_He_firstMutual 8 = .ok (.aload_n 0, 1) := by decide +kernel
theorem d_He_firstMutual_9 : decode b_He_firstMutual 9 = .ok (.iload_n 1, 1) := by decide +kernel
theorem d_He_firstMutual_10 : decode b_He_firstMutual 10 = .ok (.iload_n 2, 1) := by decide +kernel
theorem d_He_firstMutual_11 : decode b_He_firstMutual 11 = .ok (.iload_n 3, 1) := by decide +kernel
theorem d_He_firstMutual_12 : decode b_He_firstMutual 12 = .ok (.invokevirtual 19, 3) := by decide +kernel
theorem d_He_firstMutual_15 : decode b_He_firstMutual 15 = .ok (.ifCond .eq 5, 3) := by decide +kernel
theorem d_He_firstMutual_18 : decode b_He_firstMutual 18 = .ok (.iload_n 3, 1) := by decide +kernel
theorem d_He_firstMutual_19 : decode b_He_firstMutual 19 = .ok (.ireturn, 1) := by decide +kernel
theorem d_He_firstMutual_20 : decode b_He_firstMutual 20 = .ok (.iinc 3 1, 3) := by decide +kernel
theorem d_He_firstMutual_23 : decode b_He_firstMutual 23 = .ok (.goto (-21), 3) := by decide +kernel
theorem d_He_firstMutual_26 : decode b_He_firstMutual 26 = .ok (.iconst (-1), 1) := by decide +kernel
theorem d_He_firstMutual_27 : decode b_He_firstMutual 27 = .ok (.ireturn, 1) := by decide +kernel
theorem d_Wi_isShared_0 : decode b_Wi_isShared 0 = .ok (.aload_n 0, 1) := by decide +kernel
theorem d_Wi_isShared_1 : decode b_Wi_isShared 1 = .ok (.iload_n 1, 1) := by decide +kernel
theorem d_Wi_isShared_2 : decode b_Wi_isShared 2 = .ok (.invokevirtual 22, 3) := by decide +kernel
theorem d_Wi_isShared_5 : decode b_Wi_isShared 5 = .ok (.iconst 2, 1) := by decide +kernel
theorem d_Wi_isShared_6 : decode b_Wi_isShared 6 = .ok (.if_icmp .le 7, 3) := by decide +kernel
theorem d_Wi_isShared_9 : decode b_Wi_isShared 9 = .ok (.iconst 1, 1) := by decide +kernel
theorem d_Wi_isShared_10 : decode b_Wi_isShared 10 = .ok (.goto 4, 3) := by decide +kernel
theorem d_Wi_isShared_13 : decode b_Wi_isShared 13 = .ok (.iconst 0, 1) := by decide +kernel
theorem d_Wi_isShared_14 : decode b_Wi_isShared 14 = .ok (.ireturn, 1) := by decide +kernel
theorem d_Wi_priorityOf_0 : decode b_Wi_priorityOf 0 = .ok (.aload_n 0, 1) := by decide +kernel
theorem d_Wi_priorityOf_1 : decode b_Wi_priorityOf 1 = .ok (.getfield 15, 3) := by decide +kernel
theorem d_Wi_priorityOf_4 : decode b_Wi_priorityOf 4 = .ok (.iload_n 1, 1) := by decide +kernel
theorem d_Wi_priorityOf_5 : decode b_Wi_priorityOf 5 = .ok (.bipush 6, 2) := by decide +kernel
theorem d_Wi_priorityOf_7 : decode b_Wi_priorityOf 7 = .ok (.imul, 1) := by decide +kernel
theorem d_Wi_priorityOf_8 : decode b_Wi_priorityOf 8 = .ok (.iload_n 2, 1) := by decide +kernel
theorem d_Wi_priorityOf_9 : decode b_Wi_priorityOf 9 = .ok (.iadd, 1) := by decide +kernel
theorem d_Wi_priorityOf_10 : decode b_Wi_priorityOf 10 = .ok (.iaload, 1) := by decide +kernel
theorem d_Wi_priorityOf_11 : decode b_Wi_priorityOf 11 = .ok (.ireturn, 1) := by decide +kernel
theorem d_AR_speakerSeenBy_0 : decode b_AR_speakerSeenBy 0 = .ok (.iload_n 1, 1) := by decide +kernel
theorem d_AR_speakerSeenBy_1 : decode b_AR_speakerSeenBy 1 = .ok (.istore 4, 2) := by decide +kernel
theorem d_AR_speakerSeenBy_3 : decode b_AR_speakerSeenBy 3 = .ok (.iconst 0, 1) := by decide +kernel
theorem d_AR_speakerSeenBy_4 : decode b_AR_speakerSeenBy 4 = .ok (.istore 5, 2) := by decide +kernel
theorem d_AR_speakerSeenBy_6 : decode b_AR_speakerSeenBy 6 = .ok (.iload 5, 2) := by decide +kernel
theorem d_AR_speakerSeenBy_8 : decode b_AR_speakerSeenBy 8 = .ok (.bipush 6, 2) := by decide +kernel
theorem d_AR_speakerSeenBy_10 : decode b_AR_speakerSeenBy 10 = .ok (.if_icmp .ge 68, 3) := by decide +kernel
theorem d_AR_speakerSeenBy_13 : decode b_AR_speakerSeenBy 13 = .ok (.aload_n 0, 1) := by decide +kernel
theorem d_AR_speakerSeenBy_14 : decode b_AR_speakerSeenBy 14 = .ok (.iload_n 3, 1) := by decide +kernel
theorem d_AR_speakerSeenBy_15 : decode b_AR_speakerSeenBy 15 = .ok (.invokevirtual 150, 3) := by decide +kernel
theorem d_AR_speakerSeenBy_18 : decode b_AR_speakerSeenBy 18 = .ok (.iload_n 1, 1) := by decide +kernel
theorem d_AR_speakerSeenBy_19 : decode b_AR_speakerSeenBy 19 = .ok (.iload_n 2, 1) := by decide +kernel
theorem d_AR_speakerSeenBy_20 : decode b_AR_speakerSeenBy 20 = .ok (.iload 5, 2) := by decide +kernel
theorem d_AR_speakerSeenBy_22 : decode b_AR_speakerSeenBy 22 = .ok (.invokevirtual 154, 3) := by decide +kernel
theorem d_AR_speakerSeenBy_25 : decode b_AR_speakerSeenBy 25 = .ok (.ifCond .eq 47, 3) := by decide +kernel
theorem d_AR_speakerSeenBy_28 : decode b_AR_speakerSeenBy 28 = .ok (.aload_n 0, 1) := by decide +kernel
theorem d_AR_speakerSeenBy_29 : decode b_AR_speakerSeenBy 29 = .ok (.getfield 19, 3) := by decide +kernel
theorem d_AR_speakerSeenBy_32 : decode b_AR_speakerSeenBy 32 = .ok (.iload 5, 2) := by decide +kernel
theorem d_AR_speakerSeenBy_34 : decode b_AR_speakerSeenBy 34 = .ok (.iload_n 2, 1) := by decide +kernel
theorem d_AR_speakerSeenBy_35 : decode b_AR_speakerSeenBy 35 = .ok (.invokevirtual 193, 3) := by decide +kernel
theorem d_AR_speakerSeenBy_38 : decode b_AR_speakerSeenBy 38 = .ok (.aload_n 0, 1) := by decide +kernel
theorem d_AR_speakerSeenBy_39 : decode b_AR_speakerSeenBy 39 = .ok (.getfield 19, 3) := by decide +kernel
theorem d_AR_speakerSeenBy_42 : decode b_AR_speakerSeenBy 42 = .ok (.iload 4, 2) := by decide +kernel
theorem d_AR_speakerSeenBy_44 : decode b_AR_speakerSeenBy 44 = .ok (.iload_n 2, 1) := by decide +kernel
theorem d_AR_speakerSeenBy_45 : decode b_AR_speakerSeenBy 45 = .ok (.invokevirtual 193, 3) := by decide +kernel
theorem d_AR_speakerSeenBy_48 : decode b_AR_speakerSeenBy 48 = .ok (.isub, 1) := by decide +kernel
theorem d_AR_speakerSeenBy_49 : decode b_AR_speakerSeenBy 49 = .ok (.istore 6, 2) := by decide +kernel
theorem d_AR_speakerSeenBy_51 : decode b_AR_speakerSeenBy 51 = .ok (.iload 6, 2) := by decide +kernel
theorem d_AR_speakerSeenBy_53 : decode b_AR_speakerSeenBy 53 = .ok (.ifCond .gt 15, 3) := by decide +kernel
theorem d_AR_speakerSeenBy_56 : decode b_AR_speakerSeenBy 56 = .ok (.iload 6, 2) := by decide +kernel
theorem d_AR_speakerSeenBy_58 : decode b_AR_speakerSeenBy 58 = .ok (.ifCond .ne 14, 3) := by decide +kernel
theorem d_AR_speakerSeenBy_61 : decode b_AR_speakerSeenBy 61 = .ok (.iload 5, 2) := by decide +kernel
theorem d_AR_speakerSeenBy_63 : decode b_AR_speakerSeenBy 63 = .ok (.iload 4, 2) := by decide +kernel
theorem d_AR_speakerSeenBy_65 : decode b_AR_speakerSeenBy 65 = .ok (.if_icmp .le 7, 3) := by decide +kernel
theorem d_AR_speakerSeenBy_68 : decode b_AR_speakerSeenBy 68 = .ok (.iload 5, 2) := by decide +kernel
theorem d_AR_speakerSeenBy_70 : decode b_AR_speakerSeenBy 70 = .ok (.istore 4, 2) := by decide +kernel
theorem d_AR_speakerSeenBy_72 : decode b_AR_speakerSeenBy 72 = .ok (.iinc 5 1, 3) := by decide +kernel
theorem d_AR_speakerSeenBy_75 : decode b_AR_speakerSeenBy 75 = .ok (.goto (-69), 3) := by decide +kernel
theorem d_AR_speakerSeenBy_78 : decode b_AR_speakerSeenBy 78 = .ok (.iload 4, 2) := by decide +kernel
theorem d_AR_speakerSeenBy_80 : decode b_AR_speakerSeenBy 80 = .ok (.ireturn, 1) := by decide +kernel
theorem d_AR_nameOf_0 : decode b_AR_nameOf 0 = .ok (.bipush 7, 2) := by decide +kernel
theorem d_AR_nameOf_2 : decode b_AR_nameOf 2 = .ok (.iload_n 0, 1) := by decide +kernel
theorem d_AR_nameOf_3 : decode b_AR_nameOf 3 = .ok (.imul, 1) := by decide +kernel
theorem d_AR_nameOf_4 : decode b_AR_nameOf 4 = .ok (.iload_n 1, 1) := by decide +kernel
theorem d_AR_nameOf_5 : decode b_AR_nameOf 5 = .ok (.iadd, 1) := by decide +kernel
theorem d_AR_nameOf_6 : decode b_AR_nameOf 6 = .ok (.ireturn, 1) := by decide +kernel
theorem d_Wi_metricOf_0 : decode b_Wi_metricOf 0 = .ok (.aload_n 0, 1) := by decide +kernel
theorem d_Wi_metricOf_1 : decode b_Wi_metricOf 1 = .ok (.getfield 9, 3) := by decide +kernel
theorem d_Wi_metricOf_4 : decode b_Wi_metricOf 4 = .ok (.iload_n 1, 1) := by decide +kernel
theorem d_Wi_metricOf_5 : decode b_Wi_metricOf 5 = .ok (.bipush 6, 2) := by decide +kernel
theorem d_Wi_metricOf_7 : decode b_Wi_metricOf 7 = .ok (.imul, 1) := by decide +kernel
theorem d_Wi_metricOf_8 : decode b_Wi_metricOf 8 = .ok (.iload_n 2, 1) := by decide +kernel
theorem d_Wi_metricOf_9 : decode b_Wi_metricOf 9 = .ok (.iadd, 1) := by decide +kernel
theorem d_Wi_metricOf_10 : decode b_Wi_metricOf 10 = .ok (.iaload, 1) := by decide +kernel
theorem d_Wi_metricOf_11 : decode b_Wi_metricOf 11 = .ok (.ireturn, 1) := by decide +kernel
theorem d_Dr_addLink_0 : decode b_Dr_addLink 0 = .ok (.aload_n 0, 1) := by decide +kernel
theorem d_Dr_addLink_1 : decode b_Dr_addLink 1 = .ok (.getfield 15, 3) := by decide +kernel
theorem d_Dr_addLink_4 : decode b_Dr_addLink 4 = .ok (.bipush 10, 2) := by decide +kernel
theorem d_Dr_addLink_6 : decode b_Dr_addLink 6 = .ok (.if_icmp .ge 28, 3) := by decide +kernel
theorem d_Dr_addLink_9 : decode b_Dr_addLink 9 = .ok (.aload_n 0, 1) := by decide +kernel
theorem d_Dr_addLink_10 : decode b_Dr_addLink 10 = .ok (.getfield 9, 3) := by decide +kernel
theorem d_Dr_addLink_13 : decode b_Dr_addLink 13 = .ok (.aload_n 0, 1) := by decide +kernel
theorem d_Dr_addLink_14 : decode b_Dr_addLink 14 = .ok (.getfield 15, 3) := by decide +kernel
theorem d_Dr_addLink_17 : decode b_Dr_addLink 17 = .ok (.iload_n 1, 1) := by decide +kernel
theorem d_Dr_addLink_18 : decode b_Dr_addLink 18 = .ok (.bipush 64, 2) := by decide +kernel
theorem d_Dr_addLink_20 : decode b_Dr_addLink 20 = .ok (.iload_n 2, 1) := by decide +kernel
theorem d_Dr_addLink_21 : decode b_Dr_addLink 21 = .ok (.imul, 1) := by decide +kernel
theorem d_Dr_addLink_22 : decode b_Dr_addLink 22 = .ok (.iadd, 1) := by decide +kernel
theorem d_Dr_addLink_23 : decode b_Dr_addLink 23 = .ok (.iastore, 1) := by decide +kernel
theorem d_Dr_addLink_24 : decode b_Dr_addLink 24 = .ok (.aload_n 0, 1) := by decide +kernel
theorem d_Dr_addLink_25 : decode b_Dr_addLink 25 = .ok (.dup, 1) := by decide +kernel
theorem d_Dr_addLink_26 : decode b_Dr_addLink 26 = .ok (.getfield 15, 3) := by decide +kernel
theorem d_Dr_addLink_29 : decode b_Dr_addLink 29 = .ok (.iconst 1, 1) := by decide +kernel
theorem d_Dr_addLink_30 : decode b_Dr_addLink 30 = .ok (.iadd, 1) := by decide +kernel
theorem d_Dr_addLink_31 : decode b_Dr_addLink 31 = .ok (.putfield 15, 3) := by decide +kernel
theorem d_Dr_addLink_34 : decode b_Dr_addLink 34 = .ok (.return_, 1) := by decide +kernel
theorem d_AR_draftItself_0 : decode b_AR_draftItself 0 = .ok (.aload_n 0, 1) := by decide +kernel
theorem d_AR_draftItself_1 : decode b_AR_draftItself 1 = .ok (.getfield 40, 3) := by decide +kernel
theorem d_AR_draftItself_4 : decode b_AR_draftItself 4 = .ok (.iload_n 2, 1) := by decide +kernel
theorem d_AR_draftItself_5 : decode b_AR_draftItself 5 = .ok (.iconst 1, 1) := by decide +kernel
theorem d_AR_draftItself_6 : decode b_AR_draftItself 6 = .ok (.if_icmp .ne 25, 3) := by decide +kernel
theorem d_AR_draftItself_9 : decode b_AR_draftItself 9 = .ok (.aload_n 0, 1) := by decide +kernel
theorem d_AR_draftItself_10 : decode b_AR_draftItself 10 = .ok (.getfield 13, 3) := by decide +kernel
theorem d_AR_draftItself_13 : decode b_AR_draftItself 13 = .ok (.iload_n 1, 1) := by decide +kernel
theorem d_AR_draftItself_14 : decode b_AR_draftItself 14 = .ok (.iaload, 1) := by decide +kernel
theorem d_AR_draftItself_15 : decode b_AR_draftItself 15 = .ok (.iconst 3, 1) := by decide +kernel
theorem d_AR_draftItself_16 : decode b_AR_draftItself 16 = .ok (.if_icmp .ne 15, 3) := by decide +kernel
theorem d_AR_draftItself_19 : decode b_AR_draftItself 19 = .ok (.aload_n 0, 1) := by decide +kernel
theorem d_AR_draftItself_20 : decode b_AR_draftItself 20 = .ok (.iload_n 1, 1) := by decide +kernel
theorem d_AR_draftItself_21 : decode b_AR_draftItself 21 = .ok (.invokevirtual 205, 3) := by decide +kernel
theorem d_AR_draftItself_24 : decode b_AR_draftItself 24 = .ok (.ifCond .eq 7, 3) := by decide +kernel
theorem d_AR_draftItself_27 : decode b_AR_draftItself 27 = .ok (.iconst 1, 1) := by decide +kernel
theorem d_AR_draftItself_28 : decode b_AR_draftItself 28 = .ok (.goto 4, 3) := by decide +kernel
theorem d_AR_draftItself_31 : decode b_AR_draftItself 31 = .ok (.iconst 0, 1) := by decide +kernel
theorem d_AR_draftItself_32 : decode b_AR_draftItself 32 = .ok (.putfield 208, 3) := by decide +kernel
theorem d_AR_draftItself_35 : decode b_AR_draftItself 35 = .ok (.iconst 0, 1) := by decide +kernel
theorem d_AR_draftItself_36 : decode b_AR_draftItself 36 = .ok (.istore_n 3, 1) := by decide +kernel
theorem d_AR_draftItself_37 : decode b_AR_draftItself 37 = .ok (.iload_n 3, 1) := by decide +kernel
theorem d_AR_draftItself_38 : decode b_AR_draftItself 38 = .ok (.bipush 6, 2) := by decide +kernel
theorem d_AR_draftItself_40 : decode b_AR_draftItself 40 = .ok (.if_icmp .ge 79, 3) := by decide +kernel
theorem d_AR_draftItself_43 : decode b_AR_draftItself 43 = .ok (.aload_n 0, 1) := by decide +kernel
theorem d_AR_draftItself_44 : decode b_AR_draftItself 44 = .ok (.iload_n 2, 1) := by decide +kernel
theorem d_AR_draftItself_45 : decode b_AR_draftItself 45 = .ok (.invokevirtual 150, 3) := by decide +kernel
theorem d_AR_draftItself_48 : decode b_AR_draftItself 48 = .ok (.iload_n 1, 1) := by decide +kernel
theorem d_AR_draftItself_49 : decode b_AR_draftItself 49 = .ok (.iload_n 3, 1) := by decide +kernel
theorem d_AR_draftItself_50 : decode b_AR_draftItself 50 = .ok (.invokevirtual 212, 3) := by decide +kernel
theorem d_AR_draftItself_53 : decode b_AR_draftItself 53 = .ok (.istore 4, 2) := by decide +kernel
theorem d_AR_draftItself_55 : decode b_AR_draftItself 55 = .ok (.iload 4, 2) := by decide +kernel
theorem d_AR_draftItself_57 : decode b_AR_draftItself 57 = .ok (.ifCond .lt 56, 3) := by decide +kernel
theorem d_AR_draftItself_60 : decode b_AR_draftItself 60 = .ok (.aload_n 0, 1) := by decide +kernel
theorem d_AR_draftItself_61 : decode b_AR_draftItself 61 = .ok (.getfield 19, 3) := by decide +kernel
theorem d_AR_draftItself_64 : decode b_AR_draftItself 64 = .ok (.iload_n 3, 1) := by decide +kernel
theorem d_AR_draftItself_65 : decode b_AR_draftItself 65 = .ok (.invokevirtual 102, 3) := by decide +kernel
theorem d_AR_draftItself_68 : decode b_AR_draftItself 68 = .ok (.ifCond .eq 19, 3) := by decide +kernel
theorem d_AR_draftItself_71 : decode b_AR_draftItself 71 = .ok (.aload_n 0, 1) := by decide +kernel
theorem d_AR_draftItself_72 : decode b_AR_draftItself 72 = .ok (.iload_n 1, 1) := by decide +kernel
theorem d_AR_draftItself_73 : decode b_AR_draftItself 73 = .ok (.iload_n 3, 1) := by decide +kernel
theorem d_AR_draftItself_74 : decode b_AR_draftItself 74 = .ok (.iload_n 2, 1) := by decide +kernel
theorem d_AR_draftItself_75 : decode b_AR_draftItself 75 = .ok (.invokevirtual 157, 3) := by decide +kernel
theorem d_AR_draftItself_78 : decode b_AR_draftItself 78 = .ok (.iconst 1, 1) := by decide +kernel
theorem d_AR_draftItself_79 : decode b_AR_draftItself 79 = .ok (.iload_n 3, 1) := by decide +kernel
theorem d_AR_draftItself_80 : decode b_AR_draftItself 80 = .ok (.iadd, 1) := by decide +kernel
theorem d_AR_draftItself_81 : decode b_AR_draftItself 81 = .ok (.invokestatic 215, 3) := by decide +kernel
theorem d_AR_draftItself_84 : decode b_AR_draftItself 84 = .ok (.goto 9, 3) := by decide +kernel
theorem d_AR_draftItself_87 : decode b_AR_draftItself 87 = .ok (.iload 4, 2) := by decide +kernel
theorem d_AR_draftItself_89 : decode b_AR_draftItself 89 = .ok (.iconst 0, 1) := by decide +kernel
theorem d_AR_draftItself_90 : decode b_AR_draftItself 90 = .ok (.invokestatic 215, 3) := by decide +kernel
theorem d_AR_draftItself_93 : decode b_AR_draftItself 93 = .ok (.istore 5, 2) := by decide +kernel
theorem d_AR_draftItself_95 : decode b_AR_draftItself 95 = .ok (.aload_n 0, 1) := by decide +kernel
theorem d_AR_draftItself_96 : decode b_AR_draftItself 96 = .ok (.getfield 40, 3) := by decide +kernel
theorem d_AR_draftItself_99 : decode b_AR_draftItself 99 = .ok (.iload 5, 2) := by decide +kernel
theorem d_AR_draftItself_101 : decode b_AR_draftItself 101 = .ok (.aload_n 0, 1) := by decide +kernel
theorem d_AR_draftItself_102 : decode b_AR_draftItself 102 = .ok (.getfield 19, 3) := by decide +kernel
theorem d_AR_draftItself_105 : decode b_AR_draftItself 105 = .ok (.iload_n 1, 1) := by decide +kernel
theorem d_AR_draftItself_106 : decode b_AR_draftItself 106 = .ok (.iload_n 3, 1) := by decide +kernel
theorem d_AR_draftItself_107 : decode b_AR_draftItself 107 = .ok (.invokevirtual 218, 3) := by decide +kernel
theorem d_AR_draftItself_110 : decode b_AR_draftItself 110 = .ok (.invokevirtual 221, 3) := by decide +kernel
theorem d_AR_draftItself_113 : decode b_AR_draftItself 113 = .ok (.iinc 3 1, 3) := by decide +kernel
theorem d_AR_draftItself_116 : decode b_AR_draftItself 116 = .ok (.goto (-79), 3) := by decide +kernel
theorem d_AR_draftItself_119 : decode b_AR_draftItself 119 = .ok (.return_, 1) := by decide +kernel
theorem d_AR_draftCircuit_0 : decode b_AR_draftCircuit 0 = .ok (.aload_n 0, 1) := by decide +kernel
theorem d_AR_draftCircuit_1 : decode b_AR_draftCircuit 1 = .ok (.iload_n 2, 1) := by decide +kernel
theorem d_AR_draftCircuit_2 : decode b_AR_draftCircuit 2 = .ok (.invokevirtual 150, 3) := by decide +kernel
theorem d_AR_draftCircuit_5 : decode b_AR_draftCircuit 5 = .ok (.astore 4, 2) := by decide +kernel
theorem d_AR_draftCircuit_7 : decode b_AR_draftCircuit 7 = .ok (.aload_n 0, 1) := by decide +kernel
theorem d_AR_draftCircuit_8 : decode b_AR_draftCircuit 8 = .ok (.getfield 19, 3) := by decide +kernel
theorem d_AR_draftCircuit_11 : decode b_AR_draftCircuit 11 = .ok (.iload_n 3, 1) := by decide +kernel
theorem d_AR_draftCircuit_12 : decode b_AR_draftCircuit 12 = .ok (.invokevirtual 102, 3) := by decide +kernel
theorem d_AR_draftCircuit_15 : decode b_AR_draftCircuit 15 = .ok (.ifCond .eq 24, 3) := by decide +kernel
theorem d_AR_draftCircuit_18 : decode b_AR_draftCircuit 18 = .ok (.aload 4, 2) := by decide +kernel
theorem d_AR_draftCircuit_20 : decode b_AR_draftCircuit 20 = .ok (.iload_n 1, 1) := by decide +kernel
theorem d_AR_draftCircuit_21 : decode b_AR_draftCircuit 21 = .ok (.iload_n 3, 1) := by decide +kernel
theorem d_AR_draftCircuit_22 : decode b_AR_draftCircuit 22 = .ok (.invokevirtual 212, 3) := by decide +kernel
theorem d_AR_draftCircuit_25 : decode b_AR_draftCircuit 25 = .ok (.ifCond .lt 14, 3) := by decide +kernel
theorem d_AR_draftCircuit_28 : decode b_AR_draftCircuit 28 = .ok (.aload_n 0, 1) := by decide +kernel
theorem d_AR_draftCircuit_29 : decode b_AR_draftCircuit 29 = .ok (.iload_n 1, 1) := by decide +kernel
theorem d_AR_draftCircuit_30 : decode b_AR_draftCircuit 30 = .ok (.iload_n 3, 1) := by decide +kernel
theorem d_AR_draftCircuit_31 : decode b_AR_draftCircuit 31 = .ok (.iload_n 2, 1) := by decide +kernel
theorem d_AR_draftCircuit_32 : decode b_AR_draftCircuit 32 = .ok (.invokevirtual 157, 3) := by decide +kernel
theorem d_AR_draftCircuit_35 : decode b_AR_draftCircuit 35 = .ok (.iload_n 1, 1) := by decide +kernel
theorem d_AR_draftCircuit_36 : decode b_AR_draftCircuit 36 = .ok (.if_icmp .eq 5, 3) := by decide +kernel
theorem d_AR_draftCircuit_39 : decode b_AR_draftCircuit 39 = .ok (.iconst 0, 1) := by decide +kernel
theorem d_AR_draftCircuit_40 : decode b_AR_draftCircuit 40 = .ok (.ireturn, 1) := by decide +kernel
theorem d_AR_draftCircuit_41 : decode b_AR_draftCircuit 41 = .ok (.aload_n 0, 1) := by decide +kernel
theorem d_AR_draftCircuit_42 : decode b_AR_draftCircuit 42 = .ok (.getfield 40, 3) := by decide +kernel
theorem d_AR_draftCircuit_45 : decode b_AR_draftCircuit 45 = .ok (.iload_n 1, 1) := by decide +kernel
theorem d_AR_draftCircuit_46 : decode b_AR_draftCircuit 46 = .ok (.iconst 0, 1) := by decide +kernel
theorem d_AR_draftCircuit_47 : decode b_AR_draftCircuit 47 = .ok (.invokestatic 215, 3) := by decide +kernel
theorem d_AR_draftCircuit_50 : decode b_AR_draftCircuit 50 = .ok (.iconst 0, 1) := by decide +kernel
theorem d_AR_draftCircuit_51 : decode b_AR_draftCircuit 51 = .ok (.invokevirtual 221, 3) := by decide +kernel
theorem d_AR_draftCircuit_54 : decode b_AR_draftCircuit 54 = .ok (.iconst 0, 1) := by decide +kernel
theorem d_AR_draftCircuit_55 : decode b_AR_draftCircuit 55 = .ok (.istore 5, 2) := by decide +kernel
theorem d_AR_draftCircuit_57 : decode b_AR_draftCircuit 57 = .ok (.iload 5, 2) := by decide +kernel
theorem d_AR_draftCircuit_59 : decode b_AR_draftCircuit 59 = .ok (.bipush 6, 2) := by decide +kernel
theorem d_AR_draftCircuit_61 : decode b_AR_draftCircuit 61 = .ok (.if_icmp .ge 35, 3) := by decide +kernel
theorem d_AR_draftCircuit_64 : decode b_AR_draftCircuit 64 = .ok (.aload 4, 2) := by decide +kernel
theorem d_AR_draftCircuit_66 : decode b_AR_draftCircuit 66 = .ok (.iload_n 1, 1) := by decide +kernel
theorem d_AR_draftCircuit_67 : decode b_AR_draftCircuit 67 = .ok (.iload_n 3, 1) := by decide +kernel
theorem d_AR_draftCircuit_68 : decode b_AR_draftCircuit 68 = .ok (.iload 5, 2) := by decide +kernel
theorem d_AR_draftCircuit_70 : decode b_AR_draftCircuit 70 = .ok (.invokevirtual 154, 3) := by decide +kernel
theorem d_AR_draftCircuit_73 : decode b_AR_draftCircuit 73 = .ok (.ifCond .eq 17, 3) := by decide +kernel
theorem d_AR_draftCircuit_76 : decode b_AR_draftCircuit 76 = .ok (.aload_n 0, 1) := by decide +kernel
theorem d_AR_draftCircuit_77 : decode b_AR_draftCircuit 77 = .ok (.getfield 40, 3) := by decide +kernel
theorem d_AR_draftCircuit_80 : decode b_AR_draftCircuit 80 = .ok (.iload 5, 2) := by decide +kernel
theorem d_AR_draftCircuit_82 : decode b_AR_draftCircuit 82 = .ok (.iconst 0, 1) := by decide +kernel
theorem d_AR_draftCircuit_83 : decode b_AR_draftCircuit 83 = .ok (.invokestatic 215, 3) := by decide +kernel
theorem d_AR_draftCircuit_86 : decode b_AR_draftCircuit 86 = .ok (.iconst 0, 1) := by decide +kernel
theorem d_AR_draftCircuit_87 : decode b_AR_draftCircuit 87 = .ok (.invokevirtual 221, 3) := by decide +kernel
theorem d_AR_draftCircuit_90 : decode b_AR_draftCircuit 90 = .ok (.iinc 5 1, 3) := by decide +kernel
theorem d_AR_draftCircuit_93 : decode b_AR_draftCircuit 93 = .ok (.goto (-36), 3) := by decide +kernel
theorem d_AR_draftCircuit_96 : decode b_AR_draftCircuit 96 = .ok (.iconst 1, 1) := by decide +kernel
theorem d_AR_draftCircuit_97 : decode b_AR_draftCircuit 97 = .ok (.ireturn, 1) := by decide +kernel
theorem d_AR_draftPart_0 : decode b_AR_draftPart 0 = .ok (.aload_n 0, 1) := by decide +kernel
theorem d_AR_draftPart_1 : decode b_AR_draftPart 1 = .ok (.getfield 40, 3) := by decide +kernel
theorem d_AR_draftPart_4 : decode b_AR_draftPart 4 = .ok (.aload_n 0, 1) := by decide +kernel
theorem d_AR_draftPart_5 : decode b_AR_draftPart 5 = .ok (.getfield 9, 3) := by decide +kernel
theorem d_AR_draftPart_8 : decode b_AR_draftPart 8 = .ok (.iload_n 1, 1) := by decide +kernel
theorem d_AR_draftPart_9 : decode b_AR_draftPart 9 = .ok (.iaload, 1) := by decide +kernel
theorem d_AR_draftPart_10 : decode b_AR_draftPart 10 = .ok (.invokevirtual 196, 3) := by decide +kernel
theorem d_AR_draftPart_13 : decode b_AR_draftPart 13 = .ok (.iload_n 3, 1) := by decide +kernel
theorem d_AR_draftPart_14 : decode b_AR_draftPart 14 = .ok (.ifCond .ne 11, 3) := by decide +kernel
theorem d_AR_draftPart_17 : decode b_AR_draftPart 17 = .ok (.aload_n 0, 1) := by decide +kernel
theorem d_AR_draftPart_18 : decode b_AR_draftPart 18 = .ok (.iload_n 1, 1) := by decide +kernel
theorem d_AR_draftPart_19 : decode b_AR_draftPart 19 = .ok (.iload_n 2, 1) := by decide +kernel
theorem d_AR_draftPart_20 : decode b_AR_draftPart 20 = .ok (.invokevirtual 199, 3) := by decide +kernel
theorem d_AR_draftPart_23 : decode b_AR_draftPart 23 = .ok (.iconst 1, 1) := by decide +kernel
theorem d_AR_draftPart_24 : decode b_AR_draftPart 24 = .ok (.ireturn, 1) := by decide +kernel
theorem d_AR_draftPart_25 : decode b_AR_draftPart 25 = .ok (.aload_n 0, 1) := by decide +kernel
theorem d_AR_draftPart_26 : decode b_AR_draftPart 26 = .ok (.iload_n 1, 1) := by decide +kernel
theorem d_AR_draftPart_27 : decode b_AR_draftPart 27 = .ok (.iload_n 2, 1) := by decide +kernel
theorem d_AR_draftPart_28 : decode b_AR_draftPart 28 = .ok (.iload_n 3, 1) := by decide +kernel
theorem d_AR_draftPart_29 : decode b_AR_draftPart 29 = .ok (.iconst 1, 1) := by decide +kernel
theorem d_AR_draftPart_30 : decode b_AR_draftPart 30 = .ok (.isub, 1) := by decide +kernel
theorem d_AR_draftPart_31 : decode b_AR_draftPart 31 = .ok (.invokevirtual 202, 3) := by decide +kernel
theorem d_AR_draftPart_34 : decode b_AR_draftPart 34 = .ok (.ireturn, 1) := by decide +kernel
theorem d_Ba_renew_0 : decode b_Ba_renew 0 = .ok (.aload_n 0, 1) := by decide +kernel
theorem d_Ba_renew_1 : decode b_Ba_renew 1 = .ok (.getfield 15, 3) := by decide +kernel
theorem d_Ba_renew_4 : decode b_Ba_renew 4 = .ok (.iload_n 1, 1) := by decide +kernel
theorem d_Ba_renew_5 : decode b_Ba_renew 5 = .ok (.dup2, 1) := by decide +kernel
theorem d_Ba_renew_6 : decode b_Ba_renew 6 = .ok (.iaload, 1) := by decide +kernel
theorem d_Ba_renew_7 : decode b_Ba_renew 7 = .ok (.iconst 1, 1) := by decide +kernel
theorem d_Ba_renew_8 : decode b_Ba_renew 8 = .ok (.iadd, 1) := by decide +kernel
theorem d_Ba_renew_9 : decode b_Ba_renew 9 = .ok (.iastore, 1) := by decide +kernel
theorem d_Ba_renew_10 : decode b_Ba_renew 10 = .ok (.aload_n 0, 1) := by decide +kernel
theorem d_Ba_renew_11 : decode b_Ba_renew 11 = .ok (.getfield 9, 3) := by decide +kernel
theorem d_Ba_renew_14 : decode b_Ba_renew 14 = .ok (.iload_n 1, 1) := by decide +kernel
theorem d_Ba_renew_15 : decode b_Ba_renew 15 = .ok (.aload_n 0, 1) := by decide +kernel
theorem d_Ba_renew_16 : decode b_Ba_renew 16 = .ok (.getfield 15, 3) := by decide +kernel
theorem d_Ba_renew_19 : decode b_Ba_renew 19 = .ok (.iload_n 1, 1) := by decide +kernel
theorem d_Ba_renew_20 : decode b_Ba_renew 20 = .ok (.iaload, 1) := by decide +kernel
theorem d_Ba_renew_21 : decode b_Ba_renew 21 = .ok (.iastore, 1) := by decide +kernel
theorem d_Ba_renew_22 : decode b_Ba_renew 22 = .ok (.aload_n 0, 1) := by decide +kernel
theorem d_Ba_renew_23 : decode b_Ba_renew 23 = .ok (.getfield 18, 3) := by decide +kernel
theorem d_Ba_renew_26 : decode b_Ba_renew 26 = .ok (.iload_n 1, 1) := by decide +kernel
theorem d_Ba_renew_27 : decode b_Ba_renew 27 = .ok (.bipush 20, 2) := by decide +kernel
theorem d_Ba_renew_29 : decode b_Ba_renew 29 = .ok (.iastore, 1) := by decide +kernel
theorem d_Ba_renew_30 : decode b_Ba_renew 30 = .ok (.aload_n 0, 1) := by decide +kernel
theorem d_Ba_renew_31 : decode b_Ba_renew 31 = .ok (.getfield 24, 3) := by decide +kernel
theorem d_Ba_renew_34 : decode b_Ba_renew 34 = .ok (.iload_n 1, 1) := by decide +kernel
theorem d_Ba_renew_35 : decode b_Ba_renew 35 = .ok (.aload_n 2, 1) := by decide +kernel
theorem d_Ba_renew_36 : decode b_Ba_renew 36 = .ok (.getfield 69, 3) := by decide +kernel
theorem d_Ba_renew_39 : decode b_Ba_renew 39 = .ok (.bastore, 1) := by decide +kernel
theorem d_Ba_renew_40 : decode b_Ba_renew 40 = .ok (.aload_n 0, 1) := by decide +kernel
theorem d_Ba_renew_41 : decode b_Ba_renew 41 = .ok (.getfield 28, 3) := by decide +kernel
theorem d_Ba_renew_44 : decode b_Ba_renew 44 = .ok (.iload_n 1, 1) := by decide +kernel
theorem d_Ba_renew_45 : decode b_Ba_renew 45 = .ok (.aload_n 2, 1) := by decide +kernel
theorem d_Ba_renew_46 : decode b_Ba_renew 46 = .ok (.getfield 80, 3) := by decide +kernel
theorem d_Ba_renew_49 : decode b_Ba_renew 49 = .ok (.iastore, 1) := by decide +kernel
theorem d_Ba_renew_50 : decode b_Ba_renew 50 = .ok (.aload_n 0, 1) := by decide +kernel
theorem d_Ba_renew_51 : decode b_Ba_renew 51 = .ok (.iload_n 1, 1) := by decide +kernel
theorem d_Ba_renew_52 : decode b_Ba_renew 52 = .ok (.aload_n 2, 1) := by decide +kernel
theorem d_Ba_renew_53 : decode b_Ba_renew 53 = .ok (.getfield 79, 3) := by decide +kernel
theorem d_Ba_renew_56 : decode b_Ba_renew 56 = .ok (.iconst 0, 1) := by decide +kernel
theorem d_Ba_renew_57 : decode b_Ba_renew 57 = .ok (.aload_n 2, 1) := by decide +kernel
theorem d_Ba_renew_58 : decode b_Ba_renew 58 = .ok (.getfield 75, 3) := by decide +kernel
theorem d_Ba_renew_61 : decode b_Ba_renew 61 = .ok (.invokevirtual 83, 3) := by decide +kernel
theorem d_Ba_renew_64 : decode b_Ba_renew 64 = .ok (.aload_n 0, 1) := by decide +kernel
theorem d_Ba_renew_65 : decode b_Ba_renew 65 = .ok (.getfield 37, 3) := by decide +kernel
theorem d_Ba_renew_68 : decode b_Ba_renew 68 = .ok (.iload_n 1, 1) := by decide +kernel
theorem d_Ba_renew_69 : decode b_Ba_renew 69 = .ok (.iload_n 3, 1) := by decide +kernel
theorem d_Ba_renew_70 : decode b_Ba_renew 70 = .ok (.iastore, 1) := by decide +kernel
theorem d_Ba_renew_71 : decode b_Ba_renew 71 = .ok (.aload_n 0, 1) := by decide +kernel
theorem d_Ba_renew_72 : decode b_Ba_renew 72 = .ok (.getfield 40, 3) := by decide +kernel
theorem d_Ba_renew_75 : decode b_Ba_renew 75 = .ok (.iload_n 1, 1) := by decide +kernel
theorem d_Ba_renew_76 : decode b_Ba_renew 76 = .ok (.iconst 0, 1) := by decide +kernel
theorem d_Ba_renew_77 : decode b_Ba_renew 77 = .ok (.iastore, 1) := by decide +kernel
theorem d_Ba_renew_78 : decode b_Ba_renew 78 = .ok (.return_, 1) := by decide +kernel
theorem d_Ba_end_0 : decode b_Ba_end 0 = .ok (.aload_n 0, 1) := by decide +kernel
theorem d_Ba_end_1 : decode b_Ba_end 1 = .ok (.getfield 18, 3) := by decide +kernel
theorem d_Ba_end_4 : decode b_Ba_end 4 = .ok (.iload_n 1, 1) := by decide +kernel
theorem d_Ba_end_5 : decode b_Ba_end 5 = .ok (.iconst 0, 1) := by decide +kernel
theorem d_Ba_end_6 : decode b_Ba_end 6 = .ok (.iastore, 1) := by decide +kernel
theorem d_Ba_end_7 : decode b_Ba_end 7 = .ok (.aload_n 0, 1) := by decide +kernel
theorem d_Ba_end_8 : decode b_Ba_end 8 = .ok (.getfield 21, 3) := by decide +kernel
theorem d_Ba_end_11 : decode b_Ba_end 11 = .ok (.iload_n 1, 1) := by decide +kernel
theorem d_Ba_end_12 : decode b_Ba_end 12 = .ok (.iconst 0, 1) := by decide +kernel
theorem d_Ba_end_13 : decode b_Ba_end 13 = .ok (.iastore, 1) := by decide +kernel
theorem d_Ba_end_14 : decode b_Ba_end 14 = .ok (.aload_n 0, 1) := by decide +kernel
theorem d_Ba_end_15 : decode b_Ba_end 15 = .ok (.getfield 37, 3) := by decide +kernel
theorem d_Ba_end_18 : decode b_Ba_end 18 = .ok (.iload_n 1, 1) := by decide +kernel
theorem d_Ba_end_19 : decode b_Ba_end 19 = .ok (.iload_n 2, 1) := by decide +kernel
theorem d_Ba_end_20 : decode b_Ba_end 20 = .ok (.iastore, 1) := by decide +kernel
theorem d_Ba_end_21 : decode b_Ba_end 21 = .ok (.return_, 1) := by decide +kernel
theorem d_Ba_askNowhere_0 : decode b_Ba_askNowhere 0 = .ok (.aload_n 0, 1) := by decide +kernel
theorem d_Ba_askNowhere_1 : decode b_Ba_askNowhere 1 = .ok (.getfield 40, 3) := by decide +kernel
theorem d_Ba_askNowhere_4 : decode b_Ba_askNowhere 4 = .ok (.iload_n 1, 1) := by decide +kernel
theorem d_Ba_askNowhere_5 : decode b_Ba_askNowhere 5 = .ok (.iconst 0, 1) := by decide +kernel
theorem d_Ba_askNowhere_6 : decode b_Ba_askNowhere 6 = .ok (.iastore, 1) := by decide +kernel
theorem d_Ba_askNowhere_7 : decode b_Ba_askNowhere 7 = .ok (.return_, 1) := by decide +kernel
theorem d_AR_answerForOwn_0 : decode b_AR_answerForOwn 0 = .ok (.aload_n 0, 1) := by decide +kernel
theorem d_AR_answerForOwn_1 : decode b_AR_answerForOwn 1 = .ok (.iload_n 1, 1) := by decide +kernel
theorem d_AR_answerForOwn_2 : decode b_AR_answerForOwn 2 = .ok (.iload_n 2, 1) := by decide +kernel
theorem d_AR_answerForOwn_3 : decode b_AR_answerForOwn 3 = .ok (.invokevirtual 87, 3) := by decide +kernel
theorem d_AR_answerForOwn_6 : decode b_AR_answerForOwn 6 = .ok (.astore 4, 2) := by decide +kernel
theorem d_AR_answerForOwn_8 : decode b_AR_answerForOwn 8 = .ok (.aload_n 0, 1) := by decide +kernel
theorem d_AR_answerForOwn_9 : decode b_AR_answerForOwn 9 = .ok (.iload_n 1, 1) := by decide +kernel
theorem d_AR_answerForOwn_10 : decode b_AR_answerForOwn 10 = .ok (.iload_n 2, 1) := by decide +kernel
theorem d_AR_answerForOwn_11 : decode b_AR_answerForOwn 11 = .ok (.iload_n 3, 1) := by decide +kernel
theorem d_AR_answerForOwn_12 : decode b_AR_answerForOwn 12 = .ok (.invokestatic 257, 3) := by decide +kernel
theorem d_AR_answerForOwn_15 : decode b_AR_answerForOwn 15 = .ok (.invokevirtual 224, 3) := by decide +kernel
theorem d_AR_answerForOwn_18 : decode b_AR_answerForOwn 18 = .ok (.ifCond .eq 24, 3) := by decide +kernel
theorem d_AR_answerForOwn_21 : decode b_AR_answerForOwn 21 = .ok (.aload 4, 2) := by decide +kernel
theorem d_AR_answerForOwn_23 : decode b_AR_answerForOwn 23 = .ok (.iload_n 3, 1) := by decide +kernel
theorem d_AR_answerForOwn_24 : decode b_AR_answerForOwn 24 = .ok (.aload_n 0, 1) := by decide +kernel
theorem d_AR_answerForOwn_25 : decode b_AR_answerForOwn 25 = .ok (.getfield 40, 3) := by decide +kernel
theorem d_AR_answerForOwn_28 : decode b_AR_answerForOwn 28 = .ok (.aload_n 0, 1) := by decide +kernel
theorem d_AR_answerForOwn_29 : decode b_AR_answerForOwn 29 = .ok (.getfield 19, 3) := by decide +kernel
theorem d_AR_answerForOwn_32 : decode b_AR_answerForOwn 32 = .ok (.iload_n 1, 1) := by decide +kernel
theorem d_AR_answerForOwn_33 : decode b_AR_answerForOwn 33 = .ok (.invokevirtual 55, 3) := by decide +kernel
theorem d_AR_answerForOwn_36 : decode b_AR_answerForOwn 36 = .ok (.invokevirtual 231, 3) := by decide +kernel
theorem d_AR_answerForOwn_39 : decode b_AR_answerForOwn 39 = .ok (.goto 23, 3) := by decide +kernel
theorem d_AR_answerForOwn_42 : decode b_AR_answerForOwn 42 = .ok (.aload 4, 2) := by decide +kernel
theorem d_AR_answerForOwn_44 : decode b_AR_answerForOwn 44 = .ok (.iload_n 3, 1) := by decide +kernel
theorem d_AR_answerForOwn_45 : decode b_AR_answerForOwn 45 = .ok (.aload_n 0, 1) := by decide +kernel
theorem d_AR_answerForOwn_46 : decode b_AR_answerForOwn 46 = .ok (.getfield 19, 3) := by decide +kernel
theorem d_AR_answerForOwn_49 : decode b_AR_answerForOwn 49 = .ok (.iload_n 1, 1) := by decide +kernel
theorem d_AR_answerForOwn_50 : decode b_AR_answerForOwn 50 = .ok (.invokevirtual 55, 3) := by decide +kernel
theorem d_AR_answerForOwn_53 : decode b_AR_answerForOwn 53 = .ok (.invokevirtual 238, 3) := by decide +kernel
theorem d_AR_answerForOwn_56 : decode b_AR_answerForOwn 56 = .ok (.aload 4, 2) := by decide +kernel
theorem d_AR_answerForOwn_58 : decode b_AR_answerForOwn 58 = .ok (.iload_n 3, 1) := by decide +kernel
theorem d_AR_answerForOwn_59 : decode b_AR_answerForOwn 59 = .ok (.invokevirtual 260, 3) := by decide +kernel
theorem d_AR_answerForOwn_62 : decode b_AR_answerForOwn 62 = .ok (.return_, 1) := by decide +kernel
theorem d_Ba_setDueOn_0 : decode b_Ba_setDueOn 0 = .ok (.aload_n 0, 1) := by decide +kernel
theorem d_Ba_setDueOn_1 : decode b_Ba_setDueOn 1 = .ok (.getfield 37, 3) := by decide +kernel
theorem d_Ba_setDueOn_4 : decode b_Ba_setDueOn 4 = .ok (.iload_n 1, 1) := by decide +kernel
theorem d_Ba_setDueOn_5 : decode b_Ba_setDueOn 5 = .ok (.iload_n 2, 1) := by decide +kernel
theorem d_Ba_setDueOn_6 : decode b_Ba_setDueOn 6 = .ok (.iastore, 1) := by decide +kernel
theorem d_Ba_setDueOn_7 : decode b_Ba_setDueOn 7 = .ok (.return_, 1) := by decide +kernel
theorem d_AR_receive_0 : decode b_AR_receive 0 = .ok (.aload_n 0, 1) := by decide +kernel
theorem d_AR_receive_1 : decode b_AR_receive 1 = .ok (.iload_n 1, 1) := by decide +kernel
theorem d_AR_receive_2 : decode b_AR_receive 2 = .ok (.iload_n 3, 1) := by decide +kernel
theorem d_AR_receive_3 : decode b_AR_receive 3 = .ok (.invokevirtual 87, 3) := by decide +kernel
theorem d_AR_receive_6 : decode b_AR_receive 6 = .ok (.astore 6, 2) := by decide +kernel
theorem d_AR_receive_8 : decode b_AR_receive 8 = .ok (.aload 6, 2) := by decide +kernel
theorem d_AR_receive_10 : decode b_AR_receive 10 = .ok (.aload 4, 2) := by decide +kernel
theorem d_AR_receive_12 : decode b_AR_receive 12 = .ok (.iload 5, 2) := by decide +kernel
theorem d_AR_receive_14 : decode b_AR_receive 14 = .ok (.invokevirtual 241, 3) := by decide +kernel
theorem d_AR_receive_17 : decode b_AR_receive 17 = .ok (.istore 7, 2) := by decide +kernel
theorem d_AR_receive_19 : decode b_AR_receive 19 = .ok (.iload 7, 2) := by decide +kernel
theorem d_AR_receive_21 : decode b_AR_receive 21 = .ok (.ifCond .le 22, 3) := by decide +kernel
theorem d_AR_receive_24 : decode b_AR_receive 24 = .ok (.aload 6, 2) := by decide +kernel
theorem d_AR_receive_26 : decode b_AR_receive 26 = .ok (.iload 5, 2) := by decide +kernel
theorem d_AR_receive_28 : decode b_AR_receive 28 = .ok (.iload_n 2, 1) := by decide +kernel
theorem d_AR_receive_29 : decode b_AR_receive 29 = .ok (.iconst 1, 1) := by decide +kernel
theorem d_AR_receive_30 : decode b_AR_receive 30 = .ok (.invokevirtual 105, 3) := by decide +kernel
theorem d_AR_receive_33 : decode b_AR_receive 33 = .ok (.aload 6, 2) := by decide +kernel
theorem d_AR_receive_35 : decode b_AR_receive 35 = .ok (.iload 5, 2) := by decide +kernel
theorem d_AR_receive_37 : decode b_AR_receive 37 = .ok (.iload_n 2, 1) := by decide +kernel
theorem d_AR_receive_38 : decode b_AR_receive 38 = .ok (.iconst 0, 1) := by decide +kernel
theorem d_AR_receive_39 : decode b_AR_receive 39 = .ok (.invokevirtual 120, 3) := by decide +kernel
theorem d_AR_receive_42 : decode b_AR_receive 42 = .ok (.return_, 1) := by decide +kernel
theorem d_AR_receive_43 : decode b_AR_receive 43 = .ok (.iload 7, 2) := by decide +kernel
theorem d_AR_receive_45 : decode b_AR_receive 45 = .ok (.ifCond .ge 55, 3) := by decide +kernel
theorem d_AR_receive_48 : decode b_AR_receive 48 = .ok (.aload 6, 2) := by decide +kernel
theorem d_AR_receive_50 : decode b_AR_receive 50 = .ok (.aload 4, 2) := by decide +kernel
theorem d_AR_receive_52 : decode b_AR_receive 52 = .ok (.iload 5, 2) := by decide +kernel
theorem d_AR_receive_54 : decode b_AR_receive 54 = .ok (.invokevirtual 245, 3) := by decide +kernel
theorem d_AR_receive_57 : decode b_AR_receive 57 = .ok (.iload 5, 2) := by decide +kernel
theorem d_AR_receive_59 : decode b_AR_receive 59 = .ok (.invokestatic 248, 3) := by decide +kernel
theorem d_AR_receive_62 : decode b_AR_receive 62 = .ok (.iload_n 1, 1) := by decide +kernel
theorem d_AR_receive_63 : decode b_AR_receive 63 = .ok (.if_icmp .ne 22, 3) := by decide +kernel
theorem d_AR_receive_66 : decode b_AR_receive 66 = .ok (.aload 6, 2) := by decide +kernel
theorem d_AR_receive_68 : decode b_AR_receive 68 = .ok (.iload 5, 2) := by decide +kernel
theorem d_AR_receive_70 : decode b_AR_receive 70 = .ok (.invokevirtual 235, 3) := by decide +kernel
theorem d_AR_receive_73 : decode b_AR_receive 73 = .ok (.ifCond .eq 12, 3) := by decide +kernel
theorem d_AR_receive_76 : decode b_AR_receive 76 = .ok (.aload_n 0, 1) := by decide +kernel
theorem d_AR_receive_77 : decode b_AR_receive 77 = .ok (.iload_n 1, 1) := by decide +kernel
theorem d_AR_receive_78 : decode b_AR_receive 78 = .ok (.iload_n 3, 1) := by decide +kernel
theorem d_AR_receive_79 : decode b_AR_receive 79 = .ok (.iload 5, 2) := by decide +kernel
theorem d_AR_receive_81 : decode b_AR_receive 81 = .ok (.invokevirtual 251, 3) := by decide +kernel
theorem d_AR_receive_84 : decode b_AR_receive 84 = .ok (.return_, 1) := by decide +kernel
theorem d_AR_receive_85 : decode b_AR_receive 85 = .ok (.aload 6, 2) := by decide +kernel
theorem d_AR_receive_87 : decode b_AR_receive 87 = .ok (.iload 5, 2) := by decide +kernel
theorem d_AR_receive_89 : decode b_AR_receive 89 = .ok (.aload_n 0, 1) := by decide +kernel
theorem d_AR_receive_90 : decode b_AR_receive 90 = .ok (.getfield 19, 3) := by decide +kernel
theorem d_AR_receive_93 : decode b_AR_receive 93 = .ok (.iload_n 1, 1) := by decide +kernel
theorem d_AR_receive_94 : decode b_AR_receive 94 = .ok (.invokevirtual 55, 3) := by decide +kernel
theorem d_AR_receive_97 : decode b_AR_receive 97 = .ok (.invokevirtual 254, 3) := by decide +kernel
theorem d_AR_receive_100 : decode b_AR_receive 100 = .ok (.aload 6, 2) := by decide +kernel
theorem d_AR_receive_102 : decode b_AR_receive 102 = .ok (.iload 5, 2) := by decide +kernel
theorem d_AR_receive_104 : decode b_AR_receive 104 = .ok (.iload_n 2, 1) := by decide +kernel
theorem d_AR_receive_105 : decode b_AR_receive 105 = .ok (.iconst 0, 1) := by decide +kernel
theorem d_AR_receive_106 : decode b_AR_receive 106 = .ok (.invokevirtual 105, 3) := by decide +kernel
theorem d_AR_receive_109 : decode b_AR_receive 109 = .ok (.aload_n 0, 1) := by decide +kernel
theorem d_AR_receive_110 : decode b_AR_receive 110 = .ok (.getfield 19, 3) := by decide +kernel
theorem d_AR_receive_113 : decode b_AR_receive 113 = .ok (.iload_n 2, 1) := by decide +kernel
theorem d_AR_receive_114 : decode b_AR_receive 114 = .ok (.invokevirtual 102, 3) := by decide +kernel
theorem d_AR_receive_117 : decode b_AR_receive 117 = .ok (.ifCond .ne 12, 3) := by decide +kernel
theorem d_AR_receive_120 : decode b_AR_receive 120 = .ok (.aload 6, 2) := by decide +kernel
theorem d_AR_receive_122 : decode b_AR_receive 122 = .ok (.iload 5, 2) := by decide +kernel
theorem d_AR_receive_124 : decode b_AR_receive 124 = .ok (.iload_n 2, 1) := by decide +kernel
theorem d_AR_receive_125 : decode b_AR_receive 125 = .ok (.iconst 1, 1) := by decide +kernel
theorem d_AR_receive_126 : decode b_AR_receive 126 = .ok (.invokevirtual 120, 3) := by decide +kernel
theorem d_AR_receive_129 : decode b_AR_receive 129 = .ok (.return_, 1) := by decide +kernel
theorem d_AR_spread_0 : decode b_AR_spread 0 = .ok (.aload_n 0, 1) := by decide +kernel
theorem d_AR_spread_1 : decode b_AR_spread 1 = .ok (.iload_n 1, 1) := by decide +kernel
theorem d_AR_spread_2 : decode b_AR_spread 2 = .ok (.iload_n 2, 1) := by decide +kernel
theorem d_AR_spread_3 : decode b_AR_spread 3 = .ok (.invokevirtual 73, 3) := by decide +kernel
theorem d_AR_spread_6 : decode b_AR_spread 6 = .ok (.aload_n 0, 1) := by decide +kernel
theorem d_AR_spread_7 : decode b_AR_spread 7 = .ok (.iload_n 1, 1) := by decide +kernel
theorem d_AR_spread_8 : decode b_AR_spread 8 = .ok (.iload_n 3, 1) := by decide +kernel
theorem d_AR_spread_9 : decode b_AR_spread 9 = .ok (.invokevirtual 84, 3) := by decide +kernel
theorem d_AR_spread_12 : decode b_AR_spread 12 = .ok (.aload_n 0, 1) := by decide +kernel
theorem d_AR_spread_13 : decode b_AR_spread 13 = .ok (.iload_n 1, 1) := by decide +kernel
theorem d_AR_spread_14 : decode b_AR_spread 14 = .ok (.iload_n 3, 1) := by decide +kernel
theorem d_AR_spread_15 : decode b_AR_spread 15 = .ok (.invokevirtual 87, 3) := by decide +kernel
theorem d_AR_spread_18 : decode b_AR_spread 18 = .ok (.astore 5, 2) := by decide +kernel
theorem d_AR_spread_20 : decode b_AR_spread 20 = .ok (.iconst 0, 1) := by decide +kernel
theorem d_AR_spread_21 : decode b_AR_spread 21 = .ok (.istore 6, 2) := by decide +kernel
theorem d_AR_spread_23 : decode b_AR_spread 23 = .ok (.iconst 0, 1) := by decide +kernel
theorem d_AR_spread_24 : decode b_AR_spread 24 = .ok (.istore 7, 2) := by decide +kernel
theorem d_AR_spread_26 : decode b_AR_spread 26 = .ok (.iload 7, 2) := by decide +kernel
theorem d_AR_spread_28 : decode b_AR_spread 28 = .ok (.bipush 42, 2) := by decide +kernel
theorem d_AR_spread_30 : decode b_AR_spread 30 = .ok (.if_icmp .ge 85, 3) := by decide +kernel
theorem d_AR_spread_33 : decode b_AR_spread 33 = .ok (.aload 5, 2) := by decide +kernel
theorem d_AR_spread_35 : decode b_AR_spread 35 = .ok (.iload 7, 2) := by decide +kernel
theorem d_AR_spread_37 : decode b_AR_spread 37 = .ok (.iload_n 2, 1) := by decide +kernel
theorem d_AR_spread_38 : decode b_AR_spread 38 = .ok (.invokevirtual 91, 3) := by decide +kernel
theorem d_AR_spread_41 : decode b_AR_spread 41 = .ok (.ifCond .eq 68, 3) := by decide +kernel
theorem d_AR_spread_44 : decode b_AR_spread 44 = .ok (.iinc 6 1, 3) := by decide +kernel
theorem d_AR_spread_47 : decode b_AR_spread 47 = .ok (.iconst 0, 1) := by decide +kernel
theorem d_AR_spread_48 : decode b_AR_spread 48 = .ok (.istore 8, 2) := by decide +kernel
theorem d_AR_spread_50 : decode b_AR_spread 50 = .ok (.iload 8, 2) := by decide +kernel
theorem d_AR_spread_52 : decode b_AR_spread 52 = .ok (.bipush 6, 2) := by decide +kernel
theorem d_AR_spread_54 : decode b_AR_spread 54 = .ok (.if_icmp .ge 35, 3) := by decide +kernel
theorem d_AR_spread_57 : decode b_AR_spread 57 = .ok (.aload_n 0, 1) := by decide +kernel
theorem d_AR_spread_58 : decode b_AR_spread 58 = .ok (.iload 8, 2) := by decide +kernel
theorem d_AR_spread_60 : decode b_AR_spread 60 = .ok (.iload_n 1, 1) := by decide +kernel
theorem d_AR_spread_61 : decode b_AR_spread 61 = .ok (.iload_n 2, 1) := by decide +kernel
theorem d_AR_spread_62 : decode b_AR_spread 62 = .ok (.iload_n 3, 1) := by decide +kernel
theorem d_AR_spread_63 : decode b_AR_spread 63 = .ok (.iload 4, 2) := by decide +kernel
theorem d_AR_spread_65 : decode b_AR_spread 65 = .ok (.invokevirtual 94, 3) := by decide +kernel
theorem d_AR_spread_68 : decode b_AR_spread 68 = .ok (.ifCond .eq 15, 3) := by decide +kernel
theorem d_AR_spread_71 : decode b_AR_spread 71 = .ok (.aload_n 0, 1) := by decide +kernel
end
section
theorem d_AR_spread_72 : decode b_AR_spread 72 = .ok (.iload 8, 2) := by decide +kernel
theorem d_AR_spread_74 : decode b_AR_spread 74 = .ok (.iload_n 2, 1) := by decide +kernel
theorem d_AR_spread_75 : decode b_AR_spread 75 = .ok (.iload_n 3, 1) := by decide +kernel
theorem d_AR_spread_76 : decode b_AR_spread 76 = .ok (.aload 5, 2) := by decide +kernel
theorem d_AR_spread_78 : decode b_AR_spread 78 = .ok (.iload 7, 2) := by decide +kernel
theorem d_AR_spread_80 : decode b_AR_spread 80 = .ok (.invokevirtual 98, 3) := by decide +kernel
theorem d_AR_spread_83 : decode b_AR_spread 83 = .ok (.iinc 8 1, 3) := by decide +kernel
theorem d_AR_spread_86 : decode b_AR_spread 86 = .ok (.goto (-36), 3) := by decide +kernel
theorem d_AR_spread_89 : decode b_AR_spread 89 = .ok (.aload_n 0, 1) := by decide +kernel
theorem d_AR_spread_90 : decode b_AR_spread 90 = .ok (.getfield 19, 3) := by decide +kernel
theorem d_AR_spread_93 : decode b_AR_spread 93 = .ok (.iload_n 2, 1) := by decide +kernel
theorem d_AR_spread_94 : decode b_AR_spread 94 = .ok (.invokevirtual 102, 3) := by decide +kernel
theorem d_AR_spread_97 : decode b_AR_spread 97 = .ok (.ifCond .eq 12, 3) := by decide +kernel
theorem d_AR_spread_100 : decode b_AR_spread 100 = .ok (.aload 5, 2) := by decide +kernel
theorem d_AR_spread_102 : decode b_AR_spread 102 = .ok (.iload 7, 2) := by decide +kernel
theorem d_AR_spread_104 : decode b_AR_spread 104 = .ok (.iload_n 2, 1) := by decide +kernel
theorem d_AR_spread_105 : decode b_AR_spread 105 = .ok (.iconst 0, 1) := by decide +kernel
theorem d_AR_spread_106 : decode b_AR_spread 106 = .ok (.invokevirtual 105, 3) := by decide +kernel
theorem d_AR_spread_109 : decode b_AR_spread 109 = .ok (.iinc 7 1, 3) := by decide +kernel
theorem d_AR_spread_112 : decode b_AR_spread 112 = .ok (.goto (-86), 3) := by decide +kernel
theorem d_AR_spread_115 : decode b_AR_spread 115 = .ok (.iload 6, 2) := by decide +kernel
theorem d_AR_spread_117 : decode b_AR_spread 117 = .ok (.ireturn, 1) := by decide +kernel
theorem d_Ba_has_0 : decode b_Ba_has 0 = .ok (.aload_n 0, 1) := by decide +kernel
theorem d_Ba_has_1 : decode b_Ba_has 1 = .ok (.getfield 9, 3) := by decide +kernel
theorem d_Ba_has_4 : decode b_Ba_has 4 = .ok (.iload_n 1, 1) := by decide +kernel
theorem d_Ba_has_5 : decode b_Ba_has 5 = .ok (.iaload, 1) := by decide +kernel
theorem d_Ba_has_6 : decode b_Ba_has 6 = .ok (.ifCond .le 7, 3) := by decide +kernel
theorem d_Ba_has_9 : decode b_Ba_has 9 = .ok (.iconst 1, 1) := by decide +kernel
theorem d_Ba_has_10 : decode b_Ba_has 10 = .ok (.goto 4, 3) := by decide +kernel
theorem d_Ba_has_13 : decode b_Ba_has 13 = .ok (.iconst 0, 1) := by decide +kernel
theorem d_Ba_has_14 : decode b_Ba_has 14 = .ok (.ireturn, 1) := by decide +kernel
theorem d_Ba_compareWithTold_0 : decode b_Ba_compareWithTold 0 = .ok (.aload_n 0, 1) := by decide +kernel
theorem d_Ba_compareWithTold_1 : decode b_Ba_compareWithTold 1 = .ok (.aload_n 1, 1) := by decide +kernel
theorem d_Ba_compareWithTold_2 : decode b_Ba_compareWithTold 2 = .ok (.iload_n 2, 1) := by decide +kernel
theorem d_Ba_compareWithTold_3 : decode b_Ba_compareWithTold 3 = .ok (.invokevirtual 54, 3) := by decide +kernel
theorem d_Ba_compareWithTold_6 : decode b_Ba_compareWithTold 6 = .ok (.istore 4, 2) := by decide +kernel
theorem d_Ba_compareWithTold_8 : decode b_Ba_compareWithTold 8 = .ok (.aload_n 0, 1) := by decide +kernel
theorem d_Ba_compareWithTold_9 : decode b_Ba_compareWithTold 9 = .ok (.iload_n 2, 1) := by decide +kernel
theorem d_Ba_compareWithTold_10 : decode b_Ba_compareWithTold 10 = .ok (.iload_n 3, 1) := by decide +kernel
theorem d_Ba_compareWithTold_11 : decode b_Ba_compareWithTold 11 = .ok (.iload 4, 2) := by decide +kernel
theorem d_Ba_compareWithTold_13 : decode b_Ba_compareWithTold 13 = .ok (.ifCond .le 7, 3) := by decide +kernel
theorem d_Ba_compareWithTold_16 : decode b_Ba_compareWithTold 16 = .ok (.iconst 1, 1) := by decide +kernel
theorem d_Ba_compareWithTold_17 : decode b_Ba_compareWithTold 17 = .ok (.goto 4, 3) := by decide +kernel
theorem d_Ba_compareWithTold_20 : decode b_Ba_compareWithTold 20 = .ok (.iconst 0, 1) := by decide +kernel
theorem d_Ba_compareWithTold_21 : decode b_Ba_compareWithTold 21 = .ok (.invokevirtual 58, 3) := by decide +kernel
theorem d_Ba_compareWithTold_24 : decode b_Ba_compareWithTold 24 = .ok (.iload 4, 2) := by decide +kernel
theorem d_Ba_compareWithTold_26 : decode b_Ba_compareWithTold 26 = .ok (.ifCond .ge 10, 3) := by decide +kernel
theorem d_Ba_compareWithTold_29 : decode b_Ba_compareWithTold 29 = .ok (.aload_n 0, 1) := by decide +kernel
theorem d_Ba_compareWithTold_30 : decode b_Ba_compareWithTold 30 = .ok (.iload_n 2, 1) := by decide +kernel
theorem d_Ba_compareWithTold_31 : decode b_Ba_compareWithTold 31 = .ok (.iload_n 3, 1) := by decide +kernel
theorem d_Ba_compareWithTold_32 : decode b_Ba_compareWithTold 32 = .ok (.iconst 1, 1) := by decide +kernel
theorem d_Ba_compareWithTold_33 : decode b_Ba_compareWithTold 33 = .ok (.invokevirtual 62, 3) := by decide +kernel
theorem d_Ba_compareWithTold_36 : decode b_Ba_compareWithTold 36 = .ok (.return_, 1) := by decide +kernel
theorem d_Ba_compareWithSummary_0 : decode b_Ba_compareWithSummary 0 = .ok (.iconst 0, 1) := by decide +kernel
theorem d_Ba_compareWithSummary_1 : decode b_Ba_compareWithSummary 1 = .ok (.istore_n 3, 1) := by decide +kernel
theorem d_Ba_compareWithSummary_2 : decode b_Ba_compareWithSummary 2 = .ok (.iload_n 3, 1) := by decide +kernel
theorem d_Ba_compareWithSummary_3 : decode b_Ba_compareWithSummary 3 = .ok (.bipush 42, 2) := by decide +kernel
theorem d_Ba_compareWithSummary_5 : decode b_Ba_compareWithSummary 5 = .ok (.if_icmp .ge 42, 3) := by decide +kernel
theorem d_Ba_compareWithSummary_8 : decode b_Ba_compareWithSummary 8 = .ok (.aload_n 1, 1) := by decide +kernel
theorem d_Ba_compareWithSummary_9 : decode b_Ba_compareWithSummary 9 = .ok (.iload_n 3, 1) := by decide +kernel
theorem d_Ba_compareWithSummary_10 : decode b_Ba_compareWithSummary 10 = .ok (.invokevirtual 43, 3) := by decide +kernel
theorem d_Ba_compareWithSummary_13 : decode b_Ba_compareWithSummary 13 = .ok (.ifCond .eq 13, 3) := by decide +kernel
theorem d_Ba_compareWithSummary_16 : decode b_Ba_compareWithSummary 16 = .ok (.aload_n 0, 1) := by decide +kernel
theorem d_Ba_compareWithSummary_17 : decode b_Ba_compareWithSummary 17 = .ok (.aload_n 1, 1) := by decide +kernel
theorem d_Ba_compareWithSummary_18 : decode b_Ba_compareWithSummary 18 = .ok (.iload_n 3, 1) := by decide +kernel
theorem d_Ba_compareWithSummary_19 : decode b_Ba_compareWithSummary 19 = .ok (.iload_n 2, 1) := by decide +kernel
theorem d_Ba_compareWithSummary_20 : decode b_Ba_compareWithSummary 20 = .ok (.invokevirtual 65, 3) := by decide +kernel
theorem d_Ba_compareWithSummary_23 : decode b_Ba_compareWithSummary 23 = .ok (.goto 18, 3) := by decide +kernel
theorem d_Ba_compareWithSummary_26 : decode b_Ba_compareWithSummary 26 = .ok (.aload_n 0, 1) := by decide +kernel
theorem d_Ba_compareWithSummary_27 : decode b_Ba_compareWithSummary 27 = .ok (.iload_n 3, 1) := by decide +kernel
theorem d_Ba_compareWithSummary_28 : decode b_Ba_compareWithSummary 28 = .ok (.invokevirtual 51, 3) := by decide +kernel
theorem d_Ba_compareWithSummary_31 : decode b_Ba_compareWithSummary 31 = .ok (.ifCond .eq 10, 3) := by decide +kernel
theorem d_Ba_compareWithSummary_34 : decode b_Ba_compareWithSummary 34 = .ok (.aload_n 0, 1) := by decide +kernel
theorem d_Ba_compareWithSummary_35 : decode b_Ba_compareWithSummary 35 = .ok (.iload_n 3, 1) := by decide +kernel
theorem d_Ba_compareWithSummary_36 : decode b_Ba_compareWithSummary 36 = .ok (.iload_n 2, 1) := by decide +kernel
theorem d_Ba_compareWithSummary_37 : decode b_Ba_compareWithSummary 37 = .ok (.iconst 1, 1) := by decide +kernel
theorem d_Ba_compareWithSummary_38 : decode b_Ba_compareWithSummary 38 = .ok (.invokevirtual 58, 3) := by decide +kernel
theorem d_Ba_compareWithSummary_41 : decode b_Ba_compareWithSummary 41 = .ok (.iinc 3 1, 3) := by decide +kernel
theorem d_Ba_compareWithSummary_44 : decode b_Ba_compareWithSummary 44 = .ok (.goto (-42), 3) := by decide +kernel
theorem d_Ba_compareWithSummary_47 : decode b_Ba_compareWithSummary 47 = .ok (.return_, 1) := by decide +kernel
theorem d_Ba_count_0 : decode b_Ba_count 0 = .ok (.iconst 0, 1) := by decide +kernel
theorem d_Ba_count_1 : decode b_Ba_count 1 = .ok (.istore_n 1, 1) := by decide +kernel
theorem d_Ba_count_2 : decode b_Ba_count 2 = .ok (.iconst 0, 1) := by decide +kernel
theorem d_Ba_count_3 : decode b_Ba_count 3 = .ok (.istore_n 2, 1) := by decide +kernel
theorem d_Ba_count_4 : decode b_Ba_count 4 = .ok (.iload_n 2, 1) := by decide +kernel
theorem d_Ba_count_5 : decode b_Ba_count 5 = .ok (.bipush 42, 2) := by decide +kernel
theorem d_Ba_count_7 : decode b_Ba_count 7 = .ok (.if_icmp .ge 20, 3) := by decide +kernel
theorem d_Ba_count_10 : decode b_Ba_count 10 = .ok (.aload_n 0, 1) := by decide +kernel
theorem d_Ba_count_11 : decode b_Ba_count 11 = .ok (.iload_n 2, 1) := by decide +kernel
theorem d_Ba_count_12 : decode b_Ba_count 12 = .ok (.invokevirtual 43, 3) := by decide +kernel
theorem d_Ba_count_15 : decode b_Ba_count 15 = .ok (.ifCond .eq 6, 3) := by decide +kernel
theorem d_Ba_count_18 : decode b_Ba_count 18 = .ok (.iinc 1 1, 3) := by decide +kernel
theorem d_Ba_count_21 : decode b_Ba_count 21 = .ok (.iinc 2 1, 3) := by decide +kernel
theorem d_Ba_count_24 : decode b_Ba_count 24 = .ok (.goto (-20), 3) := by decide +kernel
theorem d_Ba_count_27 : decode b_Ba_count 27 = .ok (.iload_n 1, 1) := by decide +kernel
theorem d_Ba_count_28 : decode b_Ba_count 28 = .ok (.ireturn, 1) := by decide +kernel
theorem d_AR_summary_0 : decode b_AR_summary 0 = .ok (.aload_n 0, 1) := by decide +kernel
theorem d_AR_summary_1 : decode b_AR_summary 1 = .ok (.iload_n 1, 1) := by decide +kernel
theorem d_AR_summary_2 : decode b_AR_summary 2 = .ok (.iload_n 2, 1) := by decide +kernel
theorem d_AR_summary_3 : decode b_AR_summary 3 = .ok (.invokevirtual 73, 3) := by decide +kernel
theorem d_AR_summary_6 : decode b_AR_summary 6 = .ok (.aload_n 0, 1) := by decide +kernel
theorem d_AR_summary_7 : decode b_AR_summary 7 = .ok (.iload_n 1, 1) := by decide +kernel
theorem d_AR_summary_8 : decode b_AR_summary 8 = .ok (.iload_n 3, 1) := by decide +kernel
theorem d_AR_summary_9 : decode b_AR_summary 9 = .ok (.invokevirtual 84, 3) := by decide +kernel
theorem d_AR_summary_12 : decode b_AR_summary 12 = .ok (.aload_n 0, 1) := by decide +kernel
theorem d_AR_summary_13 : decode b_AR_summary 13 = .ok (.iload_n 1, 1) := by decide +kernel
theorem d_AR_summary_14 : decode b_AR_summary 14 = .ok (.iload_n 3, 1) := by decide +kernel
theorem d_AR_summary_15 : decode b_AR_summary 15 = .ok (.invokevirtual 87, 3) := by decide +kernel
theorem d_AR_summary_18 : decode b_AR_summary 18 = .ok (.astore 5, 2) := by decide +kernel
theorem d_AR_summary_20 : decode b_AR_summary 20 = .ok (.iconst 0, 1) := by decide +kernel
theorem d_AR_summary_21 : decode b_AR_summary 21 = .ok (.istore 6, 2) := by decide +kernel
theorem d_AR_summary_23 : decode b_AR_summary 23 = .ok (.iload 6, 2) := by decide +kernel
theorem d_AR_summary_25 : decode b_AR_summary 25 = .ok (.bipush 6, 2) := by decide +kernel
theorem d_AR_summary_27 : decode b_AR_summary 27 = .ok (.if_icmp .ge 36, 3) := by decide +kernel
theorem d_AR_summary_30 : decode b_AR_summary 30 = .ok (.aload_n 0, 1) := by decide +kernel
theorem d_AR_summary_31 : decode b_AR_summary 31 = .ok (.iload 6, 2) := by decide +kernel
theorem d_AR_summary_33 : decode b_AR_summary 33 = .ok (.iload_n 1, 1) := by decide +kernel
theorem d_AR_summary_34 : decode b_AR_summary 34 = .ok (.iload_n 2, 1) := by decide +kernel
theorem d_AR_summary_35 : decode b_AR_summary 35 = .ok (.iload_n 3, 1) := by decide +kernel
theorem d_AR_summary_36 : decode b_AR_summary 36 = .ok (.iload 4, 2) := by decide +kernel
theorem d_AR_summary_38 : decode b_AR_summary 38 = .ok (.invokevirtual 94, 3) := by decide +kernel
theorem d_AR_summary_41 : decode b_AR_summary 41 = .ok (.ifCond .eq 16, 3) := by decide +kernel
theorem d_AR_summary_44 : decode b_AR_summary 44 = .ok (.aload_n 0, 1) := by decide +kernel
theorem d_AR_summary_45 : decode b_AR_summary 45 = .ok (.iload 6, 2) := by decide +kernel
theorem d_AR_summary_47 : decode b_AR_summary 47 = .ok (.iload_n 3, 1) := by decide +kernel
theorem d_AR_summary_48 : decode b_AR_summary 48 = .ok (.invokevirtual 87, 3) := by decide +kernel
theorem d_AR_summary_51 : decode b_AR_summary 51 = .ok (.aload 5, 2) := by decide +kernel
theorem d_AR_summary_53 : decode b_AR_summary 53 = .ok (.iload_n 2, 1) := by decide +kernel
theorem d_AR_summary_54 : decode b_AR_summary 54 = .ok (.invokevirtual 109, 3) := by decide +kernel
theorem d_AR_summary_57 : decode b_AR_summary 57 = .ok (.iinc 6 1, 3) := by decide +kernel
theorem d_AR_summary_60 : decode b_AR_summary 60 = .ok (.goto (-37), 3) := by decide +kernel
theorem d_AR_summary_63 : decode b_AR_summary 63 = .ok (.aload 5, 2) := by decide +kernel
theorem d_AR_summary_65 : decode b_AR_summary 65 = .ok (.invokevirtual 113, 3) := by decide +kernel
theorem d_AR_summary_68 : decode b_AR_summary 68 = .ok (.ireturn, 1) := by decide +kernel
theorem d_Ba_isAsked_0 : decode b_Ba_isAsked 0 = .ok (.aload_n 0, 1) := by decide +kernel
theorem d_Ba_isAsked_1 : decode b_Ba_isAsked 1 = .ok (.getfield 40, 3) := by decide +kernel
theorem d_Ba_isAsked_4 : decode b_Ba_isAsked 4 = .ok (.iload_n 1, 1) := by decide +kernel
theorem d_Ba_isAsked_5 : decode b_Ba_isAsked 5 = .ok (.iaload, 1) := by decide +kernel
theorem d_Ba_isAsked_6 : decode b_Ba_isAsked 6 = .ok (.iload_n 2, 1) := by decide +kernel
theorem d_Ba_isAsked_7 : decode b_Ba_isAsked 7 = .ok (.ishr, 1) := by decide +kernel
theorem d_Ba_isAsked_8 : decode b_Ba_isAsked 8 = .ok (.iconst 1, 1) := by decide +kernel
theorem d_Ba_isAsked_9 : decode b_Ba_isAsked 9 = .ok (.iand, 1) := by decide +kernel
theorem d_Ba_isAsked_10 : decode b_Ba_isAsked 10 = .ok (.ifCond .eq 7, 3) := by decide +kernel
theorem d_Ba_isAsked_13 : decode b_Ba_isAsked 13 = .ok (.iconst 1, 1) := by decide +kernel
theorem d_Ba_isAsked_14 : decode b_Ba_isAsked 14 = .ok (.goto 4, 3) := by decide +kernel
theorem d_Ba_isAsked_17 : decode b_Ba_isAsked 17 = .ok (.iconst 0, 1) := by decide +kernel
theorem d_Ba_isAsked_18 : decode b_Ba_isAsked 18 = .ok (.ireturn, 1) := by decide +kernel
theorem d_AR_request_0 : decode b_AR_request 0 = .ok (.aload_n 0, 1) := by decide +kernel
theorem d_AR_request_1 : decode b_AR_request 1 = .ok (.iload_n 1, 1) := by decide +kernel
theorem d_AR_request_2 : decode b_AR_request 2 = .ok (.iload_n 2, 1) := by decide +kernel
theorem d_AR_request_3 : decode b_AR_request 3 = .ok (.invokevirtual 73, 3) := by decide +kernel
theorem d_AR_request_6 : decode b_AR_request 6 = .ok (.aload_n 0, 1) := by decide +kernel
theorem d_AR_request_7 : decode b_AR_request 7 = .ok (.iload_n 1, 1) := by decide +kernel
theorem d_AR_request_8 : decode b_AR_request 8 = .ok (.iload_n 3, 1) := by decide +kernel
theorem d_AR_request_9 : decode b_AR_request 9 = .ok (.invokevirtual 84, 3) := by decide +kernel
theorem d_AR_request_12 : decode b_AR_request 12 = .ok (.aload_n 0, 1) := by decide +kernel
theorem d_AR_request_13 : decode b_AR_request 13 = .ok (.iload_n 1, 1) := by decide +kernel
theorem d_AR_request_14 : decode b_AR_request 14 = .ok (.iload_n 3, 1) := by decide +kernel
theorem d_AR_request_15 : decode b_AR_request 15 = .ok (.invokevirtual 87, 3) := by decide +kernel
theorem d_AR_request_18 : decode b_AR_request 18 = .ok (.astore 5, 2) := by decide +kernel
theorem d_AR_request_20 : decode b_AR_request 20 = .ok (.iconst 0, 1) := by decide +kernel
theorem d_AR_request_21 : decode b_AR_request 21 = .ok (.istore 6, 2) := by decide +kernel
theorem d_AR_request_23 : decode b_AR_request 23 = .ok (.iconst 0, 1) := by decide +kernel
theorem d_AR_request_24 : decode b_AR_request 24 = .ok (.istore 7, 2) := by decide +kernel
theorem d_AR_request_26 : decode b_AR_request 26 = .ok (.iload 7, 2) := by decide +kernel
theorem d_AR_request_28 : decode b_AR_request 28 = .ok (.bipush 42, 2) := by decide +kernel
theorem d_AR_request_30 : decode b_AR_request 30 = .ok (.if_icmp .ge 77, 3) := by decide +kernel
theorem d_AR_request_33 : decode b_AR_request 33 = .ok (.aload 5, 2) := by decide +kernel
theorem d_AR_request_35 : decode b_AR_request 35 = .ok (.iload 7, 2) := by decide +kernel
theorem d_AR_request_37 : decode b_AR_request 37 = .ok (.iload_n 2, 1) := by decide +kernel
theorem d_AR_request_38 : decode b_AR_request 38 = .ok (.invokevirtual 117, 3) := by decide +kernel
theorem d_AR_request_41 : decode b_AR_request 41 = .ok (.ifCond .eq 60, 3) := by decide +kernel
theorem d_AR_request_44 : decode b_AR_request 44 = .ok (.iinc 6 1, 3) := by decide +kernel
theorem d_AR_request_47 : decode b_AR_request 47 = .ok (.aload 5, 2) := by decide +kernel
theorem d_AR_request_49 : decode b_AR_request 49 = .ok (.iload 7, 2) := by decide +kernel
theorem d_AR_request_51 : decode b_AR_request 51 = .ok (.iload_n 2, 1) := by decide +kernel
theorem d_AR_request_52 : decode b_AR_request 52 = .ok (.iconst 0, 1) := by decide +kernel
theorem d_AR_request_53 : decode b_AR_request 53 = .ok (.invokevirtual 120, 3) := by decide +kernel
theorem d_AR_request_56 : decode b_AR_request 56 = .ok (.iconst 0, 1) := by decide +kernel
theorem d_AR_request_57 : decode b_AR_request 57 = .ok (.istore 8, 2) := by decide +kernel
theorem d_AR_request_59 : decode b_AR_request 59 = .ok (.iload 8, 2) := by decide +kernel
theorem d_AR_request_61 : decode b_AR_request 61 = .ok (.bipush 6, 2) := by decide +kernel
theorem d_AR_request_63 : decode b_AR_request 63 = .ok (.if_icmp .ge 38, 3) := by decide +kernel
theorem d_AR_request_66 : decode b_AR_request 66 = .ok (.aload_n 0, 1) := by decide +kernel
theorem d_AR_request_67 : decode b_AR_request 67 = .ok (.iload 8, 2) := by decide +kernel
theorem d_AR_request_69 : decode b_AR_request 69 = .ok (.iload_n 1, 1) := by decide +kernel
theorem d_AR_request_70 : decode b_AR_request 70 = .ok (.iload_n 2, 1) := by decide +kernel
theorem d_AR_request_71 : decode b_AR_request 71 = .ok (.iload_n 3, 1) := by decide +kernel
theorem d_AR_request_72 : decode b_AR_request 72 = .ok (.iload 4, 2) := by decide +kernel
theorem d_AR_request_74 : decode b_AR_request 74 = .ok (.invokevirtual 94, 3) := by decide +kernel
theorem d_AR_request_77 : decode b_AR_request 77 = .ok (.ifCond .eq 18, 3) := by decide +kernel
theorem d_AR_request_80 : decode b_AR_request 80 = .ok (.aload_n 0, 1) := by decide +kernel
theorem d_AR_request_81 : decode b_AR_request 81 = .ok (.iload 8, 2) := by decide +kernel
theorem d_AR_request_83 : decode b_AR_request 83 = .ok (.iload_n 3, 1) := by decide +kernel
theorem d_AR_request_84 : decode b_AR_request 84 = .ok (.invokevirtual 87, 3) := by decide +kernel
theorem d_AR_request_87 : decode b_AR_request 87 = .ok (.aload 5, 2) := by decide +kernel
theorem d_AR_request_89 : decode b_AR_request 89 = .ok (.iload 7, 2) := by decide +kernel
theorem d_AR_request_91 : decode b_AR_request 91 = .ok (.iload_n 2, 1) := by decide +kernel
theorem d_AR_request_92 : decode b_AR_request 92 = .ok (.invokevirtual 123, 3) := by decide +kernel
theorem d_AR_request_95 : decode b_AR_request 95 = .ok (.iinc 8 1, 3) := by decide +kernel
theorem d_AR_request_98 : decode b_AR_request 98 = .ok (.goto (-39), 3) := by decide +kernel
theorem d_AR_request_101 : decode b_AR_request 101 = .ok (.iinc 7 1, 3) := by decide +kernel
theorem d_AR_request_104 : decode b_AR_request 104 = .ok (.goto (-78), 3) := by decide +kernel
theorem d_AR_request_107 : decode b_AR_request 107 = .ok (.iload 6, 2) := by decide +kernel
theorem d_AR_request_109 : decode b_AR_request 109 = .ok (.ireturn, 1) := by decide +kernel
theorem d_Ba_linkOf_0 : decode b_Ba_linkOf 0 = .ok (.aload_n 0, 1) := by decide +kernel
theorem d_Ba_linkOf_1 : decode b_Ba_linkOf 1 = .ok (.getfield 34, 3) := by decide +kernel
theorem d_Ba_linkOf_4 : decode b_Ba_linkOf 4 = .ok (.iload_n 1, 1) := by decide +kernel
theorem d_Ba_linkOf_5 : decode b_Ba_linkOf 5 = .ok (.bipush 10, 2) := by decide +kernel
theorem d_Ba_linkOf_7 : decode b_Ba_linkOf 7 = .ok (.imul, 1) := by decide +kernel
theorem d_Ba_linkOf_8 : decode b_Ba_linkOf 8 = .ok (.iload_n 2, 1) := by decide +kernel
theorem d_Ba_linkOf_9 : decode b_Ba_linkOf 9 = .ok (.iadd, 1) := by decide +kernel
theorem d_Ba_linkOf_10 : decode b_Ba_linkOf 10 = .ok (.iaload, 1) := by decide +kernel
theorem d_Ba_linkOf_11 : decode b_Ba_linkOf 11 = .ok (.ireturn, 1) := by decide +kernel
theorem d_Ba_isStillTrue_0 : decode b_Ba_isStillTrue 0 = .ok (.aload_n 0, 1) := by decide +kernel
theorem d_Ba_isStillTrue_1 : decode b_Ba_isStillTrue 1 = .ok (.getfield 18, 3) := by decide +kernel
theorem d_Ba_isStillTrue_4 : decode b_Ba_isStillTrue 4 = .ok (.iload_n 1, 1) := by decide +kernel
theorem d_Ba_isStillTrue_5 : decode b_Ba_isStillTrue 5 = .ok (.iaload, 1) := by decide +kernel
theorem d_Ba_isStillTrue_6 : decode b_Ba_isStillTrue 6 = .ok (.iconst 5, 1) := by decide +kernel
theorem d_Ba_isStillTrue_7 : decode b_Ba_isStillTrue 7 = .ok (.if_icmp .le 29, 3) := by decide +kernel
theorem d_Ba_isStillTrue_10 : decode b_Ba_isStillTrue 10 = .ok (.aload_n 0, 1) := by decide +kernel
theorem d_Ba_isStillTrue_11 : decode b_Ba_isStillTrue 11 = .ok (.getfield 24, 3) := by decide +kernel
theorem d_Ba_isStillTrue_14 : decode b_Ba_isStillTrue 14 = .ok (.iload_n 1, 1) := by decide +kernel
theorem d_Ba_isStillTrue_15 : decode b_Ba_isStillTrue 15 = .ok (.baload, 1) := by decide +kernel
theorem d_Ba_isStillTrue_16 : decode b_Ba_isStillTrue 16 = .ok (.aload_n 2, 1) := by decide +kernel
theorem d_Ba_isStillTrue_17 : decode b_Ba_isStillTrue 17 = .ok (.getfield 69, 3) := by decide +kernel
theorem d_Ba_isStillTrue_20 : decode b_Ba_isStillTrue 20 = .ok (.if_icmp .ne 16, 3) := by decide +kernel
theorem d_Ba_isStillTrue_23 : decode b_Ba_isStillTrue 23 = .ok (.aload_n 0, 1) := by decide +kernel
theorem d_Ba_isStillTrue_24 : decode b_Ba_isStillTrue 24 = .ok (.getfield 31, 3) := by decide +kernel
theorem d_Ba_isStillTrue_27 : decode b_Ba_isStillTrue 27 = .ok (.iload_n 1, 1) := by decide +kernel
theorem d_Ba_isStillTrue_28 : decode b_Ba_isStillTrue 28 = .ok (.iaload, 1) := by decide +kernel
theorem d_Ba_isStillTrue_29 : decode b_Ba_isStillTrue 29 = .ok (.aload_n 2, 1) := by decide +kernel
theorem d_Ba_isStillTrue_30 : decode b_Ba_isStillTrue 30 = .ok (.getfield 75, 3) := by decide +kernel
theorem d_Ba_isStillTrue_33 : decode b_Ba_isStillTrue 33 = .ok (.if_icmp .eq 5, 3) := by decide +kernel
theorem d_Ba_isStillTrue_36 : decode b_Ba_isStillTrue 36 = .ok (.iconst 0, 1) := by decide +kernel
theorem d_Ba_isStillTrue_37 : decode b_Ba_isStillTrue 37 = .ok (.ireturn, 1) := by decide +kernel
theorem d_Ba_isStillTrue_38 : decode b_Ba_isStillTrue 38 = .ok (.iconst 0, 1) := by decide +kernel
theorem d_Ba_isStillTrue_39 : decode b_Ba_isStillTrue 39 = .ok (.istore_n 3, 1) := by decide +kernel
theorem d_Ba_isStillTrue_40 : decode b_Ba_isStillTrue 40 = .ok (.iload_n 3, 1) := by decide +kernel
theorem d_Ba_isStillTrue_41 : decode b_Ba_isStillTrue 41 = .ok (.aload_n 2, 1) := by decide +kernel
theorem d_Ba_isStillTrue_42 : decode b_Ba_isStillTrue 42 = .ok (.getfield 75, 3) := by decide +kernel
theorem d_Ba_isStillTrue_45 : decode b_Ba_isStillTrue 45 = .ok (.if_icmp .ge 26, 3) := by decide +kernel
theorem d_Ba_isStillTrue_48 : decode b_Ba_isStillTrue 48 = .ok (.aload_n 0, 1) := by decide +kernel
theorem d_Ba_isStillTrue_49 : decode b_Ba_isStillTrue 49 = .ok (.iload_n 1, 1) := by decide +kernel
theorem d_Ba_isStillTrue_50 : decode b_Ba_isStillTrue 50 = .ok (.iload_n 3, 1) := by decide +kernel
theorem d_Ba_isStillTrue_51 : decode b_Ba_isStillTrue 51 = .ok (.invokevirtual 47, 3) := by decide +kernel
theorem d_Ba_isStillTrue_54 : decode b_Ba_isStillTrue 54 = .ok (.aload_n 2, 1) := by decide +kernel
theorem d_Ba_isStillTrue_55 : decode b_Ba_isStillTrue 55 = .ok (.getfield 79, 3) := by decide +kernel
theorem d_Ba_isStillTrue_58 : decode b_Ba_isStillTrue 58 = .ok (.iload_n 3, 1) := by decide +kernel
theorem d_Ba_isStillTrue_59 : decode b_Ba_isStillTrue 59 = .ok (.iaload, 1) := by decide +kernel
theorem d_Ba_isStillTrue_60 : decode b_Ba_isStillTrue 60 = .ok (.if_icmp .eq 5, 3) := by decide +kernel
theorem d_Ba_isStillTrue_63 : decode b_Ba_isStillTrue 63 = .ok (.iconst 0, 1) := by decide +kernel
theorem d_Ba_isStillTrue_64 : decode b_Ba_isStillTrue 64 = .ok (.ireturn, 1) := by decide +kernel
theorem d_Ba_isStillTrue_65 : decode b_Ba_isStillTrue 65 = .ok (.iinc 3 1, 3) := by decide +kernel
theorem d_Ba_isStillTrue_68 : decode b_Ba_isStillTrue 68 = .ok (.goto (-28), 3) := by decide +kernel
theorem d_Ba_isStillTrue_71 : decode b_Ba_isStillTrue 71 = .ok (.iconst 1, 1) := by decide +kernel
theorem d_Ba_isStillTrue_72 : decode b_Ba_isStillTrue 72 = .ok (.ireturn, 1) := by decide +kernel
theorem d_AR_bringUpToDate_0 : decode b_AR_bringUpToDate 0 = .ok (.aload_n 0, 1) := by decide +kernel
theorem d_AR_bringUpToDate_1 : decode b_AR_bringUpToDate 1 = .ok (.iload_n 1, 1) := by decide +kernel
theorem d_AR_bringUpToDate_2 : decode b_AR_bringUpToDate 2 = .ok (.iload_n 2, 1) := by decide +kernel
theorem d_AR_bringUpToDate_3 : decode b_AR_bringUpToDate 3 = .ok (.invokevirtual 87, 3) := by decide +kernel
theorem d_AR_bringUpToDate_6 : decode b_AR_bringUpToDate 6 = .ok (.astore 4, 2) := by decide +kernel
theorem d_AR_bringUpToDate_8 : decode b_AR_bringUpToDate 8 = .ok (.iload_n 1, 1) := by decide +kernel
theorem d_AR_bringUpToDate_9 : decode b_AR_bringUpToDate 9 = .ok (.iload_n 3, 1) := by decide +kernel
theorem d_AR_bringUpToDate_10 : decode b_AR_bringUpToDate 10 = .ok (.invokestatic 215, 3) := by decide +kernel
theorem d_AR_bringUpToDate_13 : decode b_AR_bringUpToDate 13 = .ok (.istore 5, 2) := by decide +kernel
theorem d_AR_bringUpToDate_15 : decode b_AR_bringUpToDate 15 = .ok (.aload_n 0, 1) := by decide +kernel
theorem d_AR_bringUpToDate_16 : decode b_AR_bringUpToDate 16 = .ok (.iload_n 1, 1) := by decide +kernel
theorem d_AR_bringUpToDate_17 : decode b_AR_bringUpToDate 17 = .ok (.iload_n 2, 1) := by decide +kernel
theorem d_AR_bringUpToDate_18 : decode b_AR_bringUpToDate 18 = .ok (.iload_n 3, 1) := by decide +kernel
theorem d_AR_bringUpToDate_19 : decode b_AR_bringUpToDate 19 = .ok (.invokevirtual 224, 3) := by decide +kernel
theorem d_AR_bringUpToDate_22 : decode b_AR_bringUpToDate 22 = .ok (.ifCond .eq 40, 3) := by decide +kernel
theorem d_AR_bringUpToDate_25 : decode b_AR_bringUpToDate 25 = .ok (.aload 4, 2) := by decide +kernel
theorem d_AR_bringUpToDate_27 : decode b_AR_bringUpToDate 27 = .ok (.iload 5, 2) := by decide +kernel
theorem d_AR_bringUpToDate_29 : decode b_AR_bringUpToDate 29 = .ok (.aload_n 0, 1) := by decide +kernel
theorem d_AR_bringUpToDate_30 : decode b_AR_bringUpToDate 30 = .ok (.getfield 40, 3) := by decide +kernel
theorem d_AR_bringUpToDate_33 : decode b_AR_bringUpToDate 33 = .ok (.invokevirtual 227, 3) := by decide +kernel
theorem d_AR_bringUpToDate_36 : decode b_AR_bringUpToDate 36 = .ok (.ifCond .eq 5, 3) := by decide +kernel
theorem d_AR_bringUpToDate_39 : decode b_AR_bringUpToDate 39 = .ok (.iconst 0, 1) := by decide +kernel
theorem d_AR_bringUpToDate_40 : decode b_AR_bringUpToDate 40 = .ok (.ireturn, 1) := by decide +kernel
theorem d_AR_bringUpToDate_41 : decode b_AR_bringUpToDate 41 = .ok (.aload 4, 2) := by decide +kernel
theorem d_AR_bringUpToDate_43 : decode b_AR_bringUpToDate 43 = .ok (.iload 5, 2) := by decide +kernel
theorem d_AR_bringUpToDate_45 : decode b_AR_bringUpToDate 45 = .ok (.aload_n 0, 1) := by decide +kernel
theorem d_AR_bringUpToDate_46 : decode b_AR_bringUpToDate 46 = .ok (.getfield 40, 3) := by decide +kernel
theorem d_AR_bringUpToDate_49 : decode b_AR_bringUpToDate 49 = .ok (.aload_n 0, 1) := by decide +kernel
theorem d_AR_bringUpToDate_50 : decode b_AR_bringUpToDate 50 = .ok (.getfield 19, 3) := by decide +kernel
theorem d_AR_bringUpToDate_53 : decode b_AR_bringUpToDate 53 = .ok (.iload_n 1, 1) := by decide +kernel
theorem d_AR_bringUpToDate_54 : decode b_AR_bringUpToDate 54 = .ok (.invokevirtual 55, 3) := by decide +kernel
theorem d_AR_bringUpToDate_57 : decode b_AR_bringUpToDate 57 = .ok (.invokevirtual 231, 3) := by decide +kernel
theorem d_AR_bringUpToDate_60 : decode b_AR_bringUpToDate 60 = .ok (.iconst 1, 1) := by decide +kernel
theorem d_AR_bringUpToDate_61 : decode b_AR_bringUpToDate 61 = .ok (.ireturn, 1) := by decide +kernel
theorem d_AR_bringUpToDate_62 : decode b_AR_bringUpToDate 62 = .ok (.aload 4, 2) := by decide +kernel
theorem d_AR_bringUpToDate_64 : decode b_AR_bringUpToDate 64 = .ok (.iload 5, 2) := by decide +kernel
theorem d_AR_bringUpToDate_66 : decode b_AR_bringUpToDate 66 = .ok (.invokevirtual 235, 3) := by decide +kernel
theorem d_AR_bringUpToDate_69 : decode b_AR_bringUpToDate 69 = .ok (.ifCond .ne 5, 3) := by decide +kernel
theorem d_AR_bringUpToDate_72 : decode b_AR_bringUpToDate 72 = .ok (.iconst 0, 1) := by decide +kernel
theorem d_AR_bringUpToDate_73 : decode b_AR_bringUpToDate 73 = .ok (.ireturn, 1) := by decide +kernel
theorem d_AR_bringUpToDate_74 : decode b_AR_bringUpToDate 74 = .ok (.aload 4, 2) := by decide +kernel
theorem d_AR_bringUpToDate_76 : decode b_AR_bringUpToDate 76 = .ok (.iload 5, 2) := by decide +kernel
theorem d_AR_bringUpToDate_78 : decode b_AR_bringUpToDate 78 = .ok (.aload_n 0, 1) := by decide +kernel
theorem d_AR_bringUpToDate_79 : decode b_AR_bringUpToDate 79 = .ok (.getfield 19, 3) := by decide +kernel
theorem d_AR_bringUpToDate_82 : decode b_AR_bringUpToDate 82 = .ok (.iload_n 1, 1) := by decide +kernel
theorem d_AR_bringUpToDate_83 : decode b_AR_bringUpToDate 83 = .ok (.invokevirtual 55, 3) := by decide +kernel
theorem d_AR_bringUpToDate_86 : decode b_AR_bringUpToDate 86 = .ok (.invokevirtual 238, 3) := by decide +kernel
theorem d_AR_bringUpToDate_89 : decode b_AR_bringUpToDate 89 = .ok (.iconst 1, 1) := by decide +kernel
theorem d_AR_bringUpToDate_90 : decode b_AR_bringUpToDate 90 = .ok (.ireturn, 1) := by decide +kernel
theorem d_AR_describe_0 : decode b_AR_describe 0 = .ok (.iload_n 1, 1) := by decide +kernel
theorem d_AR_describe_1 : decode b_AR_describe 1 = .ok (.invokestatic 51, 3) := by decide +kernel
theorem d_AR_describe_4 : decode b_AR_describe 4 = .ok (.ifCond .ne 13, 3) := by decide +kernel
theorem d_AR_describe_17 : decode b_AR_describe 17 = .ok (.iconst 0, 1) := by decide +kernel
theorem d_AR_describe_18 : decode b_AR_describe 18 = .ok (.istore_n 2, 1) := by decide +kernel
theorem d_AR_describe_19 : decode b_AR_describe 19 = .ok (.iconst 1, 1) := by decide +kernel
theorem d_AR_describe_20 : decode b_AR_describe 20 = .ok (.istore_n 3, 1) := by decide +kernel
theorem d_AR_describe_21 : decode b_AR_describe 21 = .ok (.iload_n 3, 1) := by decide +kernel
theorem d_AR_describe_22 : decode b_AR_describe 22 = .ok (.iconst 2, 1) := by decide +kernel
theorem d_AR_describe_23 : decode b_AR_describe 23 = .ok (.if_icmp .gt 48, 3) := by decide +kernel
theorem d_AR_describe_26 : decode b_AR_describe 26 = .ok (.aload_n 0, 1) := by decide +kernel
theorem d_AR_describe_27 : decode b_AR_describe 27 = .ok (.iload_n 1, 1) := by decide +kernel
theorem d_AR_describe_28 : decode b_AR_describe 28 = .ok (.iload_n 3, 1) := by decide +kernel
theorem d_AR_describe_29 : decode b_AR_describe 29 = .ok (.invokevirtual 134, 3) := by decide +kernel
theorem d_AR_describe_32 : decode b_AR_describe 32 = .ok (.ifCond .eq 33, 3) := by decide +kernel
theorem d_AR_describe_35 : decode b_AR_describe 35 = .ok (.iconst 0, 1) := by decide +kernel
theorem d_AR_describe_36 : decode b_AR_describe 36 = .ok (.istore 4, 2) := by decide +kernel
theorem d_AR_describe_38 : decode b_AR_describe 38 = .ok (.iload 4, 2) := by decide +kernel
theorem d_AR_describe_40 : decode b_AR_describe 40 = .ok (.bipush 7, 2) := by decide +kernel
theorem d_AR_describe_42 : decode b_AR_describe 42 = .ok (.if_icmp .ge 23, 3) := by decide +kernel
theorem d_AR_describe_45 : decode b_AR_describe 45 = .ok (.aload_n 0, 1) := by decide +kernel
theorem d_AR_describe_46 : decode b_AR_describe 46 = .ok (.iload_n 1, 1) := by decide +kernel
theorem d_AR_describe_47 : decode b_AR_describe 47 = .ok (.iload_n 3, 1) := by decide +kernel
theorem d_AR_describe_48 : decode b_AR_describe 48 = .ok (.iload 4, 2) := by decide +kernel
theorem d_AR_describe_50 : decode b_AR_describe 50 = .ok (.invokevirtual 137, 3) := by decide +kernel
theorem d_AR_describe_53 : decode b_AR_describe 53 = .ok (.ifCond .eq 6, 3) := by decide +kernel
theorem d_AR_describe_56 : decode b_AR_describe 56 = .ok (.iinc 2 1, 3) := by decide +kernel
theorem d_AR_describe_59 : decode b_AR_describe 59 = .ok (.iinc 4 1, 3) := by decide +kernel
theorem d_AR_describe_62 : decode b_AR_describe 62 = .ok (.goto (-24), 3) := by decide +kernel
theorem d_AR_describe_65 : decode b_AR_describe 65 = .ok (.iinc 3 1, 3) := by decide +kernel
theorem d_AR_describe_68 : decode b_AR_describe 68 = .ok (.goto (-47), 3) := by decide +kernel
theorem d_AR_describe_71 : decode b_AR_describe 71 = .ok (.iload_n 2, 1) := by decide +kernel
theorem d_AR_describe_72 : decode b_AR_describe 72 = .ok (.ireturn, 1) := by decide +kernel
theorem d_He_age_0 : decode b_He_age 0 = .ok (.iconst 0, 1) := by decide +kernel
theorem d_He_age_1 : decode b_He_age 1 = .ok (.istore_n 1, 1) := by decide +kernel
theorem d_He_age_2 : decode b_He_age 2 = .ok (.iload_n 1, 1) := by decide +kernel
theorem d_He_age_3 : decode b_He_age 3 = .ok (.sipush 216, 3) := by decide +kernel
theorem d_He_age_6 : decode b_He_age 6 = .ok (.if_icmp .ge 28, 3) := by decide +kernel
theorem d_He_age_9 : decode b_He_age 9 = .ok (.aload_n 0, 1) := by decide +kernel
theorem d_He_age_10 : decode b_He_age 10 = .ok (.getfield 11, 3) := by decide +kernel
theorem d_He_age_13 : decode b_He_age 13 = .ok (.iload_n 1, 1) := by decide +kernel
theorem d_He_age_14 : decode b_He_age 14 = .ok (.iaload, 1) := by decide +kernel
theorem d_He_age_15 : decode b_He_age 15 = .ok (.ifCond .le 13, 3) := by decide +kernel
theorem d_He_age_18 : decode b_He_age 18 = .ok (.aload_n 0, 1) := by decide +kernel
theorem d_He_age_19 : decode b_He_age 19 = .ok (.getfield 11, 3) := by decide +kernel
theorem d_He_age_22 : decode b_He_age 22 = .ok (.iload_n 1, 1) := by decide +kernel
theorem d_He_age_23 : decode b_He_age 23 = .ok (.dup2, 1) := by decide +kernel
theorem d_He_age_24 : decode b_He_age 24 = .ok (.iaload, 1) := by decide +kernel
theorem d_He_age_25 : decode b_He_age 25 = .ok (.iconst 1, 1) := by decide +kernel
theorem d_He_age_26 : decode b_He_age 26 = .ok (.isub, 1) := by decide +kernel
theorem d_He_age_27 : decode b_He_age 27 = .ok (.iastore, 1) := by decide +kernel
theorem d_He_age_28 : decode b_He_age 28 = .ok (.iinc 1 1, 3) := by decide +kernel
theorem d_He_age_31 : decode b_He_age 31 = .ok (.goto (-29), 3) := by decide +kernel
theorem d_He_age_34 : decode b_He_age 34 = .ok (.return_, 1) := by decide +kernel
theorem d_Ba_remove_0 : decode b_Ba_remove 0 = .ok (.aload_n 0, 1) := by decide +kernel
theorem d_Ba_remove_1 : decode b_Ba_remove 1 = .ok (.getfield 9, 3) := by decide +kernel
theorem d_Ba_remove_4 : decode b_Ba_remove 4 = .ok (.iload_n 1, 1) := by decide +kernel
theorem d_Ba_remove_5 : decode b_Ba_remove 5 = .ok (.iconst 0, 1) := by decide +kernel
theorem d_Ba_remove_6 : decode b_Ba_remove 6 = .ok (.iastore, 1) := by decide +kernel
theorem d_Ba_remove_7 : decode b_Ba_remove 7 = .ok (.aload_n 0, 1) := by decide +kernel
theorem d_Ba_remove_8 : decode b_Ba_remove 8 = .ok (.getfield 31, 3) := by decide +kernel
theorem d_Ba_remove_11 : decode b_Ba_remove 11 = .ok (.iload_n 1, 1) := by decide +kernel
theorem d_Ba_remove_12 : decode b_Ba_remove 12 = .ok (.iconst 0, 1) := by decide +kernel
theorem d_Ba_remove_13 : decode b_Ba_remove 13 = .ok (.iastore, 1) := by decide +kernel
theorem d_Ba_remove_14 : decode b_Ba_remove 14 = .ok (.aload_n 0, 1) := by decide +kernel
theorem d_Ba_remove_15 : decode b_Ba_remove 15 = .ok (.getfield 37, 3) := by decide +kernel
theorem d_Ba_remove_18 : decode b_Ba_remove 18 = .ok (.iload_n 1, 1) := by decide +kernel
theorem d_Ba_remove_19 : decode b_Ba_remove 19 = .ok (.iconst 0, 1) := by decide +kernel
theorem d_Ba_remove_20 : decode b_Ba_remove 20 = .ok (.iastore, 1) := by decide +kernel
theorem d_Ba_remove_21 : decode b_Ba_remove 21 = .ok (.aload_n 0, 1) := by decide +kernel
theorem d_Ba_remove_22 : decode b_Ba_remove 22 = .ok (.getfield 40, 3) := by decide +kernel
theorem d_Ba_remove_25 : decode b_Ba_remove 25 = .ok (.iload_n 1, 1) := by decide +kernel
theorem d_Ba_remove_26 : decode b_Ba_remove 26 = .ok (.iconst 0, 1) := by decide +kernel
theorem d_Ba_remove_27 : decode b_Ba_remove 27 = .ok (.iastore, 1) := by decide +kernel
theorem d_Ba_remove_28 : decode b_Ba_remove 28 = .ok (.return_, 1) := by decide +kernel
theorem d_Ba_age_0 : decode b_Ba_age 0 = .ok (.iconst 0, 1) := by decide +kernel
theorem d_Ba_age_1 : decode b_Ba_age 1 = .ok (.istore_n 2, 1) := by decide +kernel
theorem d_Ba_age_2 : decode b_Ba_age 2 = .ok (.iload_n 2, 1) := by decide +kernel
theorem d_Ba_age_3 : decode b_Ba_age 3 = .ok (.bipush 42, 2) := by decide +kernel
theorem d_Ba_age_5 : decode b_Ba_age 5 = .ok (.if_icmp .ge 77, 3) := by decide +kernel
theorem d_Ba_age_8 : decode b_Ba_age 8 = .ok (.aload_n 0, 1) := by decide +kernel
theorem d_Ba_age_9 : decode b_Ba_age 9 = .ok (.iload_n 2, 1) := by decide +kernel
theorem d_Ba_age_10 : decode b_Ba_age 10 = .ok (.invokevirtual 51, 3) := by decide +kernel
theorem d_Ba_age_13 : decode b_Ba_age 13 = .ok (.ifCond .eq 30, 3) := by decide +kernel
theorem d_Ba_age_16 : decode b_Ba_age 16 = .ok (.aload_n 0, 1) := by decide +kernel
theorem d_Ba_age_17 : decode b_Ba_age 17 = .ok (.getfield 18, 3) := by decide +kernel
theorem d_Ba_age_20 : decode b_Ba_age 20 = .ok (.iload_n 2, 1) := by decide +kernel
theorem d_Ba_age_21 : decode b_Ba_age 21 = .ok (.dup2, 1) := by decide +kernel
theorem d_Ba_age_22 : decode b_Ba_age 22 = .ok (.iaload, 1) := by decide +kernel
theorem d_Ba_age_23 : decode b_Ba_age 23 = .ok (.iconst 1, 1) := by decide +kernel
theorem d_Ba_age_24 : decode b_Ba_age 24 = .ok (.isub, 1) := by decide +kernel
theorem d_Ba_age_25 : decode b_Ba_age 25 = .ok (.iastore, 1) := by decide +kernel
theorem d_Ba_age_26 : decode b_Ba_age 26 = .ok (.aload_n 0, 1) := by decide +kernel
theorem d_Ba_age_27 : decode b_Ba_age 27 = .ok (.iload_n 2, 1) := by decide +kernel
theorem d_Ba_age_28 : decode b_Ba_age 28 = .ok (.invokevirtual 51, 3) := by decide +kernel
theorem d_Ba_age_31 : decode b_Ba_age 31 = .ok (.ifCond .ne 45, 3) := by decide +kernel
theorem d_Ba_age_34 : decode b_Ba_age 34 = .ok (.aload_n 0, 1) := by decide +kernel
theorem d_Ba_age_35 : decode b_Ba_age 35 = .ok (.iload_n 2, 1) := by decide +kernel
theorem d_Ba_age_36 : decode b_Ba_age 36 = .ok (.iload_n 1, 1) := by decide +kernel
theorem d_Ba_age_37 : decode b_Ba_age 37 = .ok (.invokevirtual 92, 3) := by decide +kernel
theorem d_Ba_age_40 : decode b_Ba_age 40 = .ok (.goto 36, 3) := by decide +kernel
theorem d_Ba_age_43 : decode b_Ba_age 43 = .ok (.aload_n 0, 1) := by decide +kernel
theorem d_Ba_age_44 : decode b_Ba_age 44 = .ok (.iload_n 2, 1) := by decide +kernel
theorem d_Ba_age_45 : decode b_Ba_age 45 = .ok (.invokevirtual 43, 3) := by decide +kernel
theorem d_Ba_age_48 : decode b_Ba_age 48 = .ok (.ifCond .eq 28, 3) := by decide +kernel
theorem d_Ba_age_51 : decode b_Ba_age 51 = .ok (.aload_n 0, 1) := by decide +kernel
theorem d_Ba_age_52 : decode b_Ba_age 52 = .ok (.getfield 21, 3) := by decide +kernel
theorem d_Ba_age_55 : decode b_Ba_age 55 = .ok (.iload_n 2, 1) := by decide +kernel
theorem d_Ba_age_56 : decode b_Ba_age 56 = .ok (.dup2, 1) := by decide +kernel
theorem d_Ba_age_57 : decode b_Ba_age 57 = .ok (.iaload, 1) := by decide +kernel
theorem d_Ba_age_58 : decode b_Ba_age 58 = .ok (.iconst 1, 1) := by decide +kernel
theorem d_Ba_age_59 : decode b_Ba_age 59 = .ok (.iadd, 1) := by decide +kernel
theorem d_Ba_age_60 : decode b_Ba_age 60 = .ok (.iastore, 1) := by decide +kernel
theorem d_Ba_age_61 : decode b_Ba_age 61 = .ok (.aload_n 0, 1) := by decide +kernel
theorem d_Ba_age_62 : decode b_Ba_age 62 = .ok (.getfield 21, 3) := by decide +kernel
theorem d_Ba_age_65 : decode b_Ba_age 65 = .ok (.iload_n 2, 1) := by decide +kernel
theorem d_Ba_age_66 : decode b_Ba_age 66 = .ok (.iaload, 1) := by decide +kernel
theorem d_Ba_age_67 : decode b_Ba_age 67 = .ok (.iconst 3, 1) := by decide +kernel
theorem d_Ba_age_68 : decode b_Ba_age 68 = .ok (.if_icmp .lt 8, 3) := by decide +kernel
theorem d_Ba_age_71 : decode b_Ba_age 71 = .ok (.aload_n 0, 1) := by decide +kernel
theorem d_Ba_age_72 : decode b_Ba_age 72 = .ok (.iload_n 2, 1) := by decide +kernel
theorem d_Ba_age_73 : decode b_Ba_age 73 = .ok (.invokevirtual 96, 3) := by decide +kernel
theorem d_Ba_age_76 : decode b_Ba_age 76 = .ok (.iinc 2 1, 3) := by decide +kernel
theorem d_Ba_age_79 : decode b_Ba_age 79 = .ok (.goto (-77), 3) := by decide +kernel
theorem d_Ba_age_82 : decode b_Ba_age 82 = .ok (.return_, 1) := by decide +kernel
theorem d_AR_tick_0 : decode b_AR_tick 0 = .ok (.iconst 0, 1) := by decide +kernel
theorem d_AR_tick_1 : decode b_AR_tick 1 = .ok (.istore_n 1, 1) := by decide +kernel
theorem d_AR_tick_2 : decode b_AR_tick 2 = .ok (.iload_n 1, 1) := by decide +kernel
theorem d_AR_tick_3 : decode b_AR_tick 3 = .ok (.iconst 2, 1) := by decide +kernel
theorem d_AR_tick_4 : decode b_AR_tick 4 = .ok (.if_icmp .ge 18, 3) := by decide +kernel
theorem d_AR_tick_7 : decode b_AR_tick 7 = .ok (.aload_n 0, 1) := by decide +kernel
theorem d_AR_tick_8 : decode b_AR_tick 8 = .ok (.getfield 25, 3) := by decide +kernel
theorem d_AR_tick_11 : decode b_AR_tick 11 = .ok (.iload_n 1, 1) := by decide +kernel
theorem d_AR_tick_12 : decode b_AR_tick 12 = .ok (.aaload, 1) := by decide +kernel
theorem d_AR_tick_13 : decode b_AR_tick 13 = .ok (.invokevirtual 141, 3) := by decide +kernel
theorem d_AR_tick_16 : decode b_AR_tick 16 = .ok (.iinc 1 1, 3) := by decide +kernel
theorem d_AR_tick_19 : decode b_AR_tick 19 = .ok (.goto (-17), 3) := by decide +kernel
theorem d_AR_tick_22 : decode b_AR_tick 22 = .ok (.iconst 1, 1) := by decide +kernel
theorem d_AR_tick_23 : decode b_AR_tick 23 = .ok (.istore_n 1, 1) := by decide +kernel
theorem d_AR_tick_24 : decode b_AR_tick 24 = .ok (.iload_n 1, 1) := by decide +kernel
theorem d_AR_tick_25 : decode b_AR_tick 25 = .ok (.iconst 2, 1) := by decide +kernel
theorem d_AR_tick_26 : decode b_AR_tick 26 = .ok (.if_icmp .gt 40, 3) := by decide +kernel
theorem d_AR_tick_29 : decode b_AR_tick 29 = .ok (.iconst 0, 1) := by decide +kernel
theorem d_AR_tick_30 : decode b_AR_tick 30 = .ok (.istore_n 2, 1) := by decide +kernel
theorem d_AR_tick_31 : decode b_AR_tick 31 = .ok (.iload_n 2, 1) := by decide +kernel
theorem d_AR_tick_32 : decode b_AR_tick 32 = .ok (.bipush 6, 2) := by decide +kernel
theorem d_AR_tick_34 : decode b_AR_tick 34 = .ok (.if_icmp .ge 26, 3) := by decide +kernel
theorem d_AR_tick_37 : decode b_AR_tick 37 = .ok (.aload_n 0, 1) := by decide +kernel
theorem d_AR_tick_38 : decode b_AR_tick 38 = .ok (.iload_n 2, 1) := by decide +kernel
theorem d_AR_tick_39 : decode b_AR_tick 39 = .ok (.iload_n 1, 1) := by decide +kernel
theorem d_AR_tick_40 : decode b_AR_tick 40 = .ok (.invokevirtual 87, 3) := by decide +kernel
theorem d_AR_tick_43 : decode b_AR_tick 43 = .ok (.aload_n 0, 1) := by decide +kernel
theorem d_AR_tick_44 : decode b_AR_tick 44 = .ok (.getfield 19, 3) := by decide +kernel
theorem d_AR_tick_47 : decode b_AR_tick 47 = .ok (.iload_n 2, 1) := by decide +kernel
theorem d_AR_tick_48 : decode b_AR_tick 48 = .ok (.invokevirtual 55, 3) := by decide +kernel
theorem d_AR_tick_51 : decode b_AR_tick 51 = .ok (.invokevirtual 144, 3) := by decide +kernel
theorem d_AR_tick_54 : decode b_AR_tick 54 = .ok (.iinc 2 1, 3) := by decide +kernel
theorem d_AR_tick_57 : decode b_AR_tick 57 = .ok (.goto (-26), 3) := by decide +kernel
theorem d_AR_tick_60 : decode b_AR_tick 60 = .ok (.iinc 1 1, 3) := by decide +kernel
theorem d_AR_tick_63 : decode b_AR_tick 63 = .ok (.goto (-39), 3) := by decide +kernel
theorem d_AR_tick_66 : decode b_AR_tick 66 = .ok (.return_, 1) := by decide +kernel
theorem d_AR_neighbour_0 : decode b_AR_neighbour 0 = .ok (.iload_n 1, 1) := by decide +kernel
theorem d_AR_neighbour_1 : decode b_AR_neighbour 1 = .ok (.invokestatic 51, 3) := by decide +kernel
theorem d_AR_neighbour_4 : decode b_AR_neighbour 4 = .ok (.ifCond .eq 44, 3) := by decide +kernel
theorem d_AR_neighbour_7 : decode b_AR_neighbour 7 = .ok (.iload_n 2, 1) := by decide +kernel
theorem d_AR_neighbour_8 : decode b_AR_neighbour 8 = .ok (.invokestatic 59, 3) := by decide +kernel
theorem d_AR_neighbour_11 : decode b_AR_neighbour 11 = .ok (.ifCond .eq 37, 3) := by decide +kernel
theorem d_AR_neighbour_14 : decode b_AR_neighbour 14 = .ok (.iload_n 3, 1) := by decide +kernel
theorem d_AR_neighbour_15 : decode b_AR_neighbour 15 = .ok (.invokestatic 147, 3) := by decide +kernel
theorem d_AR_neighbour_18 : decode b_AR_neighbour 18 = .ok (.ifCond .eq 30, 3) := by decide +kernel
theorem d_AR_neighbour_21 : decode b_AR_neighbour 21 = .ok (.iload 4, 2) := by decide +kernel
theorem d_AR_neighbour_23 : decode b_AR_neighbour 23 = .ok (.invokestatic 51, 3) := by decide +kernel
theorem d_AR_neighbour_26 : decode b_AR_neighbour 26 = .ok (.ifCond .eq 22, 3) := by decide +kernel
theorem d_AR_neighbour_29 : decode b_AR_neighbour 29 = .ok (.aload_n 0, 1) := by decide +kernel
theorem d_AR_neighbour_30 : decode b_AR_neighbour 30 = .ok (.iload_n 3, 1) := by decide +kernel
theorem d_AR_neighbour_31 : decode b_AR_neighbour 31 = .ok (.invokevirtual 150, 3) := by decide +kernel
theorem d_AR_neighbour_34 : decode b_AR_neighbour 34 = .ok (.iload_n 1, 1) := by decide +kernel
theorem d_AR_neighbour_35 : decode b_AR_neighbour 35 = .ok (.iload_n 2, 1) := by decide +kernel
theorem d_AR_neighbour_36 : decode b_AR_neighbour 36 = .ok (.iload 4, 2) := by decide +kernel
theorem d_AR_neighbour_38 : decode b_AR_neighbour 38 = .ok (.invokevirtual 154, 3) := by decide +kernel
theorem d_AR_neighbour_41 : decode b_AR_neighbour 41 = .ok (.ifCond .eq 7, 3) := by decide +kernel
theorem d_AR_neighbour_44 : decode b_AR_neighbour 44 = .ok (.iconst 1, 1) := by decide +kernel
theorem d_AR_neighbour_45 : decode b_AR_neighbour 45 = .ok (.goto 4, 3) := by decide +kernel
theorem d_AR_neighbour_48 : decode b_AR_neighbour 48 = .ok (.iconst 0, 1) := by decide +kernel
theorem d_AR_neighbour_49 : decode b_AR_neighbour 49 = .ok (.ireturn, 1) := by decide +kernel
theorem d_AR_speaker_0 : decode b_AR_speaker 0 = .ok (.iload_n 1, 1) := by decide +kernel
theorem d_AR_speaker_1 : decode b_AR_speaker 1 = .ok (.invokestatic 51, 3) := by decide +kernel
theorem d_AR_speaker_4 : decode b_AR_speaker 4 = .ok (.ifCond .eq 31, 3) := by decide +kernel
theorem d_AR_speaker_7 : decode b_AR_speaker 7 = .ok (.iload_n 2, 1) := by decide +kernel
theorem d_AR_speaker_8 : decode b_AR_speaker 8 = .ok (.invokestatic 59, 3) := by decide +kernel
theorem d_AR_speaker_11 : decode b_AR_speaker 11 = .ok (.ifCond .eq 24, 3) := by decide +kernel
theorem d_AR_speaker_14 : decode b_AR_speaker 14 = .ok (.aload_n 0, 1) := by decide +kernel
theorem d_AR_speaker_15 : decode b_AR_speaker 15 = .ok (.iload_n 1, 1) := by decide +kernel
theorem d_AR_speaker_16 : decode b_AR_speaker 16 = .ok (.iload_n 3, 1) := by decide +kernel
theorem d_AR_speaker_17 : decode b_AR_speaker 17 = .ok (.invokevirtual 134, 3) := by decide +kernel
theorem d_AR_speaker_20 : decode b_AR_speaker 20 = .ok (.ifCond .eq 15, 3) := by decide +kernel
theorem d_AR_speaker_23 : decode b_AR_speaker 23 = .ok (.aload_n 0, 1) := by decide +kernel
theorem d_AR_speaker_24 : decode b_AR_speaker 24 = .ok (.getfield 19, 3) := by decide +kernel
theorem d_AR_speaker_27 : decode b_AR_speaker 27 = .ok (.iload_n 1, 1) := by decide +kernel
theorem d_AR_speaker_28 : decode b_AR_speaker 28 = .ok (.iload_n 2, 1) := by decide +kernel
theorem d_AR_speaker_29 : decode b_AR_speaker 29 = .ok (.invokevirtual 62, 3) := by decide +kernel
theorem d_AR_speaker_32 : decode b_AR_speaker 32 = .ok (.ifCond .ne 5, 3) := by decide +kernel
theorem d_AR_speaker_35 : decode b_AR_speaker 35 = .ok (.iconst (-1), 1) := by decide +kernel
theorem d_AR_speaker_36 : decode b_AR_speaker 36 = .ok (.ireturn, 1) := by decide +kernel
theorem d_AR_speaker_37 : decode b_AR_speaker 37 = .ok (.aload_n 0, 1) := by decide +kernel
theorem d_AR_speaker_38 : decode b_AR_speaker 38 = .ok (.iload_n 1, 1) := by decide +kernel
theorem d_AR_speaker_39 : decode b_AR_speaker 39 = .ok (.iload_n 2, 1) := by decide +kernel
theorem d_AR_speaker_40 : decode b_AR_speaker 40 = .ok (.iload_n 3, 1) := by decide +kernel
theorem d_AR_speaker_41 : decode b_AR_speaker 41 = .ok (.invokevirtual 157, 3) := by decide +kernel
theorem d_AR_speaker_44 : decode b_AR_speaker 44 = .ok (.ireturn, 1) := by decide +kernel
theorem d_AR_isName_0 : decode b_AR_isName 0 = .ok (.iload_n 0, 1) := by decide +kernel
theorem d_AR_isName_1 : decode b_AR_isName 1 = .ok (.ifCond .lt 13, 3) := by decide +kernel
theorem d_AR_isName_4 : decode b_AR_isName 4 = .ok (.iload_n 0, 1) := by decide +kernel
theorem d_AR_isName_5 : decode b_AR_isName 5 = .ok (.bipush 42, 2) := by decide +kernel
theorem d_AR_isName_7 : decode b_AR_isName 7 = .ok (.if_icmp .ge 7, 3) := by decide +kernel
theorem d_AR_isName_10 : decode b_AR_isName 10 = .ok (.iconst 1, 1) := by decide +kernel
theorem d_AR_isName_11 : decode b_AR_isName 11 = .ok (.goto 4, 3) := by decide +kernel
theorem d_AR_isName_14 : decode b_AR_isName 14 = .ok (.iconst 0, 1) := by decide +kernel
theorem d_AR_isName_15 : decode b_AR_isName 15 = .ok (.ireturn, 1) := by decide +kernel
theorem d_Ba_tell_0 : decode b_Ba_tell 0 = .ok (.aload_n 0, 1) := by decide +kernel
theorem d_Ba_tell_1 : decode b_Ba_tell 1 = .ok (.iload_n 1, 1) := by decide +kernel
theorem d_Ba_tell_2 : decode b_Ba_tell 2 = .ok (.invokevirtual 43, 3) := by decide +kernel
theorem d_Ba_tell_5 : decode b_Ba_tell 5 = .ok (.ifCond .ne 5, 3) := by decide +kernel
theorem d_Ba_tell_8 : decode b_Ba_tell 8 = .ok (.iconst (-1), 1) := by decide +kernel
theorem d_Ba_tell_9 : decode b_Ba_tell 9 = .ok (.ireturn, 1) := by decide +kernel
theorem d_Ba_tell_10 : decode b_Ba_tell 10 = .ok (.iload_n 2, 1) := by decide +kernel
theorem d_Ba_tell_11 : decode b_Ba_tell 11 = .ok (.tableswitch 76 0 4 #[33, 40, 47, 62, 69], 33) := by decide +kernel
theorem d_Ba_tell_44 : decode b_Ba_tell 44 = .ok (.aload_n 0, 1) := by decide +kernel
theorem d_Ba_tell_45 : decode b_Ba_tell 45 = .ok (.getfield 9, 3) := by decide +kernel
theorem d_Ba_tell_48 : decode b_Ba_tell 48 = .ok (.iload_n 1, 1) := by decide +kernel
theorem d_Ba_tell_49 : decode b_Ba_tell 49 = .ok (.iaload, 1) := by decide +kernel
theorem d_Ba_tell_50 : decode b_Ba_tell 50 = .ok (.ireturn, 1) := by decide +kernel
theorem d_Ba_tell_51 : decode b_Ba_tell 51 = .ok (.aload_n 0, 1) := by decide +kernel
theorem d_Ba_tell_52 : decode b_Ba_tell 52 = .ok (.getfield 18, 3) := by decide +kernel
theorem d_Ba_tell_55 : decode b_Ba_tell 55 = .ok (.iload_n 1, 1) := by decide +kernel
theorem d_Ba_tell_56 : decode b_Ba_tell 56 = .ok (.iaload, 1) := by decide +kernel
theorem d_Ba_tell_57 : decode b_Ba_tell 57 = .ok (.ireturn, 1) := by decide +kernel
theorem d_Ba_tell_58 : decode b_Ba_tell 58 = .ok (.aload_n 0, 1) := by decide +kernel
theorem d_Ba_tell_59 : decode b_Ba_tell 59 = .ok (.getfield 24, 3) := by decide +kernel
theorem d_Ba_tell_62 : decode b_Ba_tell 62 = .ok (.iload_n 1, 1) := by decide +kernel
theorem d_Ba_tell_63 : decode b_Ba_tell 63 = .ok (.baload, 1) := by decide +kernel
theorem d_Ba_tell_64 : decode b_Ba_tell 64 = .ok (.ifCond .eq 7, 3) := by decide +kernel
theorem d_Ba_tell_67 : decode b_Ba_tell 67 = .ok (.iconst 1, 1) := by decide +kernel
theorem d_Ba_tell_68 : decode b_Ba_tell 68 = .ok (.goto 4, 3) := by decide +kernel
theorem d_Ba_tell_71 : decode b_Ba_tell 71 = .ok (.iconst 0, 1) := by decide +kernel
theorem d_Ba_tell_72 : decode b_Ba_tell 72 = .ok (.ireturn, 1) := by decide +kernel
theorem d_Ba_tell_73 : decode b_Ba_tell 73 = .ok (.aload_n 0, 1) := by decide +kernel
theorem d_Ba_tell_74 : decode b_Ba_tell 74 = .ok (.getfield 28, 3) := by decide +kernel
theorem d_Ba_tell_77 : decode b_Ba_tell 77 = .ok (.iload_n 1, 1) := by decide +kernel
theorem d_Ba_tell_78 : decode b_Ba_tell 78 = .ok (.iaload, 1) := by decide +kernel
theorem d_Ba_tell_79 : decode b_Ba_tell 79 = .ok (.ireturn, 1) := by decide +kernel
theorem d_Ba_tell_80 : decode b_Ba_tell 80 = .ok (.aload_n 0, 1) := by decide +kernel
theorem d_Ba_tell_81 : decode b_Ba_tell 81 = .ok (.getfield 31, 3) := by decide +kernel
theorem d_Ba_tell_84 : decode b_Ba_tell 84 = .ok (.iload_n 1, 1) := by decide +kernel
theorem d_Ba_tell_85 : decode b_Ba_tell 85 = .ok (.iaload, 1) := by decide +kernel
theorem d_Ba_tell_86 : decode b_Ba_tell 86 = .ok (.ireturn, 1) := by decide +kernel
theorem d_Ba_tell_87 : decode b_Ba_tell 87 = .ok (.iload_n 2, 1) := by decide +kernel
theorem d_Ba_tell_88 : decode b_Ba_tell 88 = .ok (.iconst 4, 1) := by decide +kernel
theorem d_Ba_tell_89 : decode b_Ba_tell 89 = .ok (.if_icmp .le 26, 3) := by decide +kernel
theorem d_Ba_tell_92 : decode b_Ba_tell 92 = .ok (.iload_n 2, 1) := by decide +kernel
theorem d_Ba_tell_93 : decode b_Ba_tell 93 = .ok (.iconst 5, 1) := by decide +kernel
theorem d_Ba_tell_94 : decode b_Ba_tell 94 = .ok (.isub, 1) := by decide +kernel
theorem d_Ba_tell_95 : decode b_Ba_tell 95 = .ok (.aload_n 0, 1) := by decide +kernel
theorem d_Ba_tell_96 : decode b_Ba_tell 96 = .ok (.getfield 31, 3) := by decide +kernel
theorem d_Ba_tell_99 : decode b_Ba_tell 99 = .ok (.iload_n 1, 1) := by decide +kernel
theorem d_Ba_tell_100 : decode b_Ba_tell 100 = .ok (.iaload, 1) := by decide +kernel
theorem d_Ba_tell_101 : decode b_Ba_tell 101 = .ok (.if_icmp .ge 14, 3) := by decide +kernel
theorem d_Ba_tell_104 : decode b_Ba_tell 104 = .ok (.aload_n 0, 1) := by decide +kernel
theorem d_Ba_tell_105 : decode b_Ba_tell 105 = .ok (.iload_n 1, 1) := by decide +kernel
theorem d_Ba_tell_106 : decode b_Ba_tell 106 = .ok (.iload_n 2, 1) := by decide +kernel
theorem d_Ba_tell_107 : decode b_Ba_tell 107 = .ok (.iconst 5, 1) := by decide +kernel
theorem d_Ba_tell_108 : decode b_Ba_tell 108 = .ok (.isub, 1) := by decide +kernel
theorem d_Ba_tell_109 : decode b_Ba_tell 109 = .ok (.invokevirtual 47, 3) := by decide +kernel
theorem d_Ba_tell_112 : decode b_Ba_tell 112 = .ok (.goto 4, 3) := by decide +kernel
theorem d_Ba_tell_115 : decode b_Ba_tell 115 = .ok (.iconst (-1), 1) := by decide +kernel
theorem d_Ba_tell_116 : decode b_Ba_tell 116 = .ok (.ireturn, 1) := by decide +kernel
theorem d_AR_description_0 : decode b_AR_description 0 = .ok (.iload_n 1, 1) := by decide +kernel
theorem d_AR_description_1 : decode b_AR_description 1 = .ok (.invokestatic 51, 3) := by decide +kernel
theorem d_AR_description_4 : decode b_AR_description 4 = .ok (.ifCond .eq 17, 3) := by decide +kernel
theorem d_AR_description_7 : decode b_AR_description 7 = .ok (.iload_n 2, 1) := by decide +kernel
theorem d_AR_description_8 : decode b_AR_description 8 = .ok (.invokestatic 147, 3) := by decide +kernel
theorem d_AR_description_11 : decode b_AR_description 11 = .ok (.ifCond .eq 10, 3) := by decide +kernel
theorem d_AR_description_14 : decode b_AR_description 14 = .ok (.iload_n 3, 1) := by decide +kernel
theorem d_AR_description_15 : decode b_AR_description 15 = .ok (.invokestatic 161, 3) := by decide +kernel
theorem d_AR_description_18 : decode b_AR_description 18 = .ok (.ifCond .ne 5, 3) := by decide +kernel
theorem d_AR_description_21 : decode b_AR_description 21 = .ok (.iconst (-1), 1) := by decide +kernel
theorem d_AR_description_22 : decode b_AR_description 22 = .ok (.ireturn, 1) := by decide +kernel
theorem d_AR_description_23 : decode b_AR_description 23 = .ok (.aload_n 0, 1) := by decide +kernel
theorem d_AR_description_24 : decode b_AR_description 24 = .ok (.iload_n 1, 1) := by decide +kernel
theorem d_AR_description_25 : decode b_AR_description 25 = .ok (.iload_n 2, 1) := by decide +kernel
theorem d_AR_description_26 : decode b_AR_description 26 = .ok (.invokevirtual 87, 3) := by decide +kernel
theorem d_AR_description_29 : decode b_AR_description 29 = .ok (.iload_n 3, 1) := by decide +kernel
theorem d_AR_description_30 : decode b_AR_description 30 = .ok (.iload 4, 2) := by decide +kernel
theorem d_AR_description_32 : decode b_AR_description 32 = .ok (.invokevirtual 164, 3) := by decide +kernel
theorem d_AR_description_35 : decode b_AR_description 35 = .ok (.ireturn, 1) := by decide +kernel
theorem d_Ba_marksOf_0 : decode b_Ba_marksOf 0 = .ok (.aload_n 0, 1) := by decide +kernel
theorem d_Ba_marksOf_1 : decode b_Ba_marksOf 1 = .ok (.getfield 37, 3) := by decide +kernel
theorem d_Ba_marksOf_4 : decode b_Ba_marksOf 4 = .ok (.iload_n 1, 1) := by decide +kernel
theorem d_Ba_marksOf_5 : decode b_Ba_marksOf 5 = .ok (.iaload, 1) := by decide +kernel
theorem d_Ba_marksOf_6 : decode b_Ba_marksOf 6 = .ok (.bipush 64, 2) := by decide +kernel
theorem d_Ba_marksOf_8 : decode b_Ba_marksOf 8 = .ok (.aload_n 0, 1) := by decide +kernel
theorem d_Ba_marksOf_9 : decode b_Ba_marksOf 9 = .ok (.getfield 40, 3) := by decide +kernel
theorem d_Ba_marksOf_12 : decode b_Ba_marksOf 12 = .ok (.iload_n 1, 1) := by decide +kernel
theorem d_Ba_marksOf_13 : decode b_Ba_marksOf 13 = .ok (.iaload, 1) := by decide +kernel
theorem d_Ba_marksOf_14 : decode b_Ba_marksOf 14 = .ok (.imul, 1) := by decide +kernel
theorem d_Ba_marksOf_15 : decode b_Ba_marksOf 15 = .ok (.iadd, 1) := by decide +kernel
theorem d_Ba_marksOf_16 : decode b_Ba_marksOf 16 = .ok (.ireturn, 1) := by decide +kernel
theorem d_AR_marks_0 : decode b_AR_marks 0 = .ok (.iload_n 1, 1) := by decide +kernel
theorem d_AR_marks_1 : decode b_AR_marks 1 = .ok (.invokestatic 51, 3) := by decide +kernel
theorem d_AR_marks_4 : decode b_AR_marks 4 = .ok (.ifCond .eq 19, 3) := by decide +kernel
theorem d_AR_marks_7 : decode b_AR_marks 7 = .ok (.aload_n 0, 1) := by decide +kernel
theorem d_AR_marks_8 : decode b_AR_marks 8 = .ok (.iload_n 1, 1) := by decide +kernel
theorem d_AR_marks_9 : decode b_AR_marks 9 = .ok (.iload_n 2, 1) := by decide +kernel
theorem d_AR_marks_10 : decode b_AR_marks 10 = .ok (.invokevirtual 134, 3) := by decide +kernel
theorem d_AR_marks_13 : decode b_AR_marks 13 = .ok (.ifCond .eq 10, 3) := by decide +kernel
theorem d_AR_marks_16 : decode b_AR_marks 16 = .ok (.iload_n 3, 1) := by decide +kernel
theorem d_AR_marks_17 : decode b_AR_marks 17 = .ok (.invokestatic 161, 3) := by decide +kernel
theorem d_AR_marks_20 : decode b_AR_marks 20 = .ok (.ifCond .ne 5, 3) := by decide +kernel
theorem d_AR_marks_23 : decode b_AR_marks 23 = .ok (.iconst (-1), 1) := by decide +kernel
theorem d_AR_marks_24 : decode b_AR_marks 24 = .ok (.ireturn, 1) := by decide +kernel
theorem d_AR_marks_25 : decode b_AR_marks 25 = .ok (.aload_n 0, 1) := by decide +kernel
theorem d_AR_marks_26 : decode b_AR_marks 26 = .ok (.iload_n 1, 1) := by decide +kernel
theorem d_AR_marks_27 : decode b_AR_marks 27 = .ok (.iload_n 2, 1) := by decide +kernel
theorem d_AR_marks_28 : decode b_AR_marks 28 = .ok (.invokevirtual 87, 3) := by decide +kernel
theorem d_AR_marks_31 : decode b_AR_marks 31 = .ok (.iload_n 3, 1) := by decide +kernel
theorem d_AR_marks_32 : decode b_AR_marks 32 = .ok (.invokevirtual 168, 3) := by decide +kernel
theorem d_AR_marks_35 : decode b_AR_marks 35 = .ok (.ireturn, 1) := by decide +kernel
theorem d_Wa_nextToSettle_0 : decode b_Wa_nextToSettle 0 = .ok (.iconst (-1), 1) := by decide +kernel
theorem d_Wa_nextToSettle_1 : decode b_Wa_nextToSettle 1 = .ok (.istore_n 1, 1) := by decide +kernel
theorem d_Wa_nextToSettle_2 : decode b_Wa_nextToSettle 2 = .ok (.iconst 0, 1) := by decide +kernel
theorem d_Wa_nextToSettle_3 : decode b_Wa_nextToSettle 3 = .ok (.istore_n 2, 1) := by decide +kernel
theorem d_Wa_nextToSettle_4 : decode b_Wa_nextToSettle 4 = .ok (.iload_n 2, 1) := by decide +kernel
theorem d_Wa_nextToSettle_5 : decode b_Wa_nextToSettle 5 = .ok (.bipush 42, 2) := by decide +kernel
theorem d_Wa_nextToSettle_7 : decode b_Wa_nextToSettle 7 = .ok (.if_icmp .ge 84, 3) := by decide +kernel
theorem d_Wa_nextToSettle_10 : decode b_Wa_nextToSettle 10 = .ok (.aload_n 0, 1) := by decide +kernel
theorem d_Wa_nextToSettle_11 : decode b_Wa_nextToSettle 11 = .ok (.getfield 18, 3) := by decide +kernel
theorem d_Wa_nextToSettle_14 : decode b_Wa_nextToSettle 14 = .ok (.iload_n 2, 1) := by decide +kernel
theorem d_Wa_nextToSettle_15 : decode b_Wa_nextToSettle 15 = .ok (.baload, 1) := by decide +kernel
theorem d_Wa_nextToSettle_16 : decode b_Wa_nextToSettle 16 = .ok (.ifCond .ne 69, 3) := by decide +kernel
theorem d_Wa_nextToSettle_19 : decode b_Wa_nextToSettle 19 = .ok (.aload_n 0, 1) := by decide +kernel
theorem d_Wa_nextToSettle_20 : decode b_Wa_nextToSettle 20 = .ok (.getfield 9, 3) := by decide +kernel
theorem d_Wa_nextToSettle_23 : decode b_Wa_nextToSettle 23 = .ok (.iload_n 2, 1) := by decide +kernel
theorem d_Wa_nextToSettle_24 : decode b_Wa_nextToSettle 24 = .ok (.iaload, 1) := by decide +kernel
theorem d_Wa_nextToSettle_25 : decode b_Wa_nextToSettle 25 = .ok (.ldc 22, 2) := by decide +kernel
theorem d_Wa_nextToSettle_27 : decode b_Wa_nextToSettle 27 = .ok (.if_icmp .ge 58, 3) := by decide +kernel
theorem d_Wa_nextToSettle_30 : decode b_Wa_nextToSettle 30 = .ok (.iload_n 1, 1) := by decide +kernel
theorem d_Wa_nextToSettle_31 : decode b_Wa_nextToSettle 31 = .ok (.ifCond .lt 18, 3) := by decide +kernel
theorem d_Wa_nextToSettle_34 : decode b_Wa_nextToSettle 34 = .ok (.aload_n 0, 1) := by decide +kernel
theorem d_Wa_nextToSettle_35 : decode b_Wa_nextToSettle 35 = .ok (.getfield 9, 3) := by decide +kernel
theorem d_Wa_nextToSettle_38 : decode b_Wa_nextToSettle 38 = .ok (.iload_n 2, 1) := by decide +kernel
theorem d_Wa_nextToSettle_39 : decode b_Wa_nextToSettle 39 = .ok (.iaload, 1) := by decide +kernel
theorem d_Wa_nextToSettle_40 : decode b_Wa_nextToSettle 40 = .ok (.aload_n 0, 1) := by decide +kernel
theorem d_Wa_nextToSettle_41 : decode b_Wa_nextToSettle 41 = .ok (.getfield 9, 3) := by decide +kernel
theorem d_Wa_nextToSettle_44 : decode b_Wa_nextToSettle 44 = .ok (.iload_n 1, 1) := by decide +kernel
theorem d_Wa_nextToSettle_45 : decode b_Wa_nextToSettle 45 = .ok (.iaload, 1) := by decide +kernel
theorem d_Wa_nextToSettle_46 : decode b_Wa_nextToSettle 46 = .ok (.if_icmp .ge 8, 3) := by decide +kernel
theorem d_Wa_nextToSettle_49 : decode b_Wa_nextToSettle 49 = .ok (.iload_n 2, 1) := by decide +kernel
theorem d_Wa_nextToSettle_50 : decode b_Wa_nextToSettle 50 = .ok (.istore_n 1, 1) := by decide +kernel
theorem d_Wa_nextToSettle_51 : decode b_Wa_nextToSettle 51 = .ok (.goto 34, 3) := by decide +kernel
theorem d_Wa_nextToSettle_54 : decode b_Wa_nextToSettle 54 = .ok (.aload_n 0, 1) := by decide +kernel
theorem d_Wa_nextToSettle_55 : decode b_Wa_nextToSettle 55 = .ok (.getfield 9, 3) := by decide +kernel
theorem d_Wa_nextToSettle_58 : decode b_Wa_nextToSettle 58 = .ok (.iload_n 2, 1) := by decide +kernel
theorem d_Wa_nextToSettle_59 : decode b_Wa_nextToSettle 59 = .ok (.iaload, 1) := by decide +kernel
theorem d_Wa_nextToSettle_60 : decode b_Wa_nextToSettle 60 = .ok (.aload_n 0, 1) := by decide +kernel
theorem d_Wa_nextToSettle_61 : decode b_Wa_nextToSettle 61 = .ok (.getfield 9, 3) := by decide +kernel
theorem d_Wa_nextToSettle_64 : decode b_Wa_nextToSettle 64 = .ok (.iload_n 1, 1) := by decide +kernel
theorem d_Wa_nextToSettle_65 : decode b_Wa_nextToSettle 65 = .ok (.iaload, 1) := by decide +kernel
theorem d_Wa_nextToSettle_66 : decode b_Wa_nextToSettle 66 = .ok (.if_icmp .ne 19, 3) := by decide +kernel
theorem d_Wa_nextToSettle_69 : decode b_Wa_nextToSettle 69 = .ok (.iload_n 1, 1) := by decide +kernel
theorem d_Wa_nextToSettle_70 : decode b_Wa_nextToSettle 70 = .ok (.invokestatic 31, 3) := by decide +kernel
theorem d_Wa_nextToSettle_73 : decode b_Wa_nextToSettle 73 = .ok (.ifCond .ne 12, 3) := by decide +kernel
theorem d_Wa_nextToSettle_76 : decode b_Wa_nextToSettle 76 = .ok (.iload_n 2, 1) := by decide +kernel
theorem d_Wa_nextToSettle_77 : decode b_Wa_nextToSettle 77 = .ok (.invokestatic 31, 3) := by decide +kernel
theorem d_Wa_nextToSettle_80 : decode b_Wa_nextToSettle 80 = .ok (.ifCond .le 5, 3) := by decide +kernel
theorem d_Wa_nextToSettle_83 : decode b_Wa_nextToSettle 83 = .ok (.iload_n 2, 1) := by decide +kernel
theorem d_Wa_nextToSettle_84 : decode b_Wa_nextToSettle 84 = .ok (.istore_n 1, 1) := by decide +kernel
theorem d_Wa_nextToSettle_85 : decode b_Wa_nextToSettle 85 = .ok (.iinc 2 1, 3) := by decide +kernel
theorem d_Wa_nextToSettle_88 : decode b_Wa_nextToSettle 88 = .ok (.goto (-84), 3) := by decide +kernel
theorem d_Wa_nextToSettle_91 : decode b_Wa_nextToSettle 91 = .ok (.iload_n 1, 1) := by decide +kernel
theorem d_Wa_nextToSettle_92 : decode b_Wa_nextToSettle 92 = .ok (.ireturn, 1) := by decide +kernel
theorem d_Ba_hasLink_0 : decode b_Ba_hasLink 0 = .ok (.iconst 0, 1) := by decide +kernel
theorem d_Ba_hasLink_1 : decode b_Ba_hasLink 1 = .ok (.istore_n 3, 1) := by decide +kernel
theorem d_Ba_hasLink_2 : decode b_Ba_hasLink 2 = .ok (.iload_n 3, 1) := by decide +kernel
theorem d_Ba_hasLink_3 : decode b_Ba_hasLink 3 = .ok (.aload_n 0, 1) := by decide +kernel
theorem d_Ba_hasLink_4 : decode b_Ba_hasLink 4 = .ok (.getfield 31, 3) := by decide +kernel
theorem d_Ba_hasLink_7 : decode b_Ba_hasLink 7 = .ok (.iload_n 1, 1) := by decide +kernel
theorem d_Ba_hasLink_8 : decode b_Ba_hasLink 8 = .ok (.iaload, 1) := by decide +kernel
theorem d_Ba_hasLink_9 : decode b_Ba_hasLink 9 = .ok (.if_icmp .ge 24, 3) := by decide +kernel
theorem d_Ba_hasLink_12 : decode b_Ba_hasLink 12 = .ok (.aload_n 0, 1) := by decide +kernel
theorem d_Ba_hasLink_13 : decode b_Ba_hasLink 13 = .ok (.iload_n 1, 1) := by decide +kernel
theorem d_Ba_hasLink_14 : decode b_Ba_hasLink 14 = .ok (.iload_n 3, 1) := by decide +kernel
theorem d_Ba_hasLink_15 : decode b_Ba_hasLink 15 = .ok (.invokevirtual 47, 3) := by decide +kernel
theorem d_Ba_hasLink_18 : decode b_Ba_hasLink 18 = .ok (.bipush 64, 2) := by decide +kernel
theorem d_Ba_hasLink_20 : decode b_Ba_hasLink 20 = .ok (.irem, 1) := by decide +kernel
theorem d_Ba_hasLink_21 : decode b_Ba_hasLink 21 = .ok (.iload_n 2, 1) := by decide +kernel
theorem d_Ba_hasLink_22 : decode b_Ba_hasLink 22 = .ok (.if_icmp .ne 5, 3) := by decide +kernel
theorem d_Ba_hasLink_25 : decode b_Ba_hasLink 25 = .ok (.iconst 1, 1) := by decide +kernel
theorem d_Ba_hasLink_26 : decode b_Ba_hasLink 26 = .ok (.ireturn, 1) := by decide +kernel
theorem d_Ba_hasLink_27 : decode b_Ba_hasLink 27 = .ok (.iinc 3 1, 3) := by decide +kernel
theorem d_Ba_hasLink_30 : decode b_Ba_hasLink 30 = .ok (.goto (-28), 3) := by decide +kernel
theorem d_Ba_hasLink_33 : decode b_Ba_hasLink 33 = .ok (.iconst 0, 1) := by decide +kernel
theorem d_Ba_hasLink_34 : decode b_Ba_hasLink 34 = .ok (.ireturn, 1) := by decide +kernel
theorem d_Wa_reach_0 : decode b_Wa_reach 0 = .ok (.iload_n 3, 1) := by decide +kernel
theorem d_Wa_reach_1 : decode b_Wa_reach 1 = .ok (.istore 4, 2) := by decide +kernel
theorem d_Wa_reach_3 : decode b_Wa_reach 3 = .ok (.iload_n 1, 1) := by decide +kernel
theorem d_Wa_reach_4 : decode b_Wa_reach 4 = .ok (.invokestatic 31, 3) := by decide +kernel
theorem d_Wa_reach_7 : decode b_Wa_reach 7 = .ok (.ifCond .ne 25, 3) := by decide +kernel
theorem d_Wa_reach_10 : decode b_Wa_reach 10 = .ok (.iload 4, 2) := by decide +kernel
theorem d_Wa_reach_12 : decode b_Wa_reach 12 = .ok (.bipush 64, 2) := by decide +kernel
theorem d_Wa_reach_14 : decode b_Wa_reach 14 = .ok (.iand, 1) := by decide +kernel
theorem d_Wa_reach_15 : decode b_Wa_reach 15 = .ok (.ifCond .eq 17, 3) := by decide +kernel
theorem d_Wa_reach_18 : decode b_Wa_reach 18 = .ok (.iload 4, 2) := by decide +kernel
theorem d_Wa_reach_20 : decode b_Wa_reach 20 = .ok (.bipush (-65), 2) := by decide +kernel
theorem d_Wa_reach_22 : decode b_Wa_reach 22 = .ok (.iand, 1) := by decide +kernel
theorem d_Wa_reach_23 : decode b_Wa_reach 23 = .ok (.iconst 1, 1) := by decide +kernel
theorem d_Wa_reach_24 : decode b_Wa_reach 24 = .ok (.iload_n 1, 1) := by decide +kernel
theorem d_Wa_reach_25 : decode b_Wa_reach 25 = .ok (.invokestatic 59, 3) := by decide +kernel
theorem d_Wa_reach_28 : decode b_Wa_reach 28 = .ok (.ishl, 1) := by decide +kernel
theorem d_Wa_reach_29 : decode b_Wa_reach 29 = .ok (.ior, 1) := by decide +kernel
theorem d_Wa_reach_30 : decode b_Wa_reach 30 = .ok (.istore 4, 2) := by decide +kernel
theorem d_Wa_reach_32 : decode b_Wa_reach 32 = .ok (.iload_n 2, 1) := by decide +kernel
theorem d_Wa_reach_33 : decode b_Wa_reach 33 = .ok (.aload_n 0, 1) := by decide +kernel
theorem d_Wa_reach_34 : decode b_Wa_reach 34 = .ok (.getfield 9, 3) := by decide +kernel
theorem d_Wa_reach_37 : decode b_Wa_reach 37 = .ok (.iload_n 1, 1) := by decide +kernel
theorem d_Wa_reach_38 : decode b_Wa_reach 38 = .ok (.iaload, 1) := by decide +kernel
theorem d_Wa_reach_39 : decode b_Wa_reach 39 = .ok (.if_icmp .ge 21, 3) := by decide +kernel
theorem d_Wa_reach_42 : decode b_Wa_reach 42 = .ok (.aload_n 0, 1) := by decide +kernel
theorem d_Wa_reach_43 : decode b_Wa_reach 43 = .ok (.getfield 9, 3) := by decide +kernel
theorem d_Wa_reach_46 : decode b_Wa_reach 46 = .ok (.iload_n 1, 1) := by decide +kernel
theorem d_Wa_reach_47 : decode b_Wa_reach 47 = .ok (.iload_n 2, 1) := by decide +kernel
theorem d_Wa_reach_48 : decode b_Wa_reach 48 = .ok (.iastore, 1) := by decide +kernel
theorem d_Wa_reach_49 : decode b_Wa_reach 49 = .ok (.aload_n 0, 1) := by decide +kernel
theorem d_Wa_reach_50 : decode b_Wa_reach 50 = .ok (.getfield 15, 3) := by decide +kernel
theorem d_Wa_reach_53 : decode b_Wa_reach 53 = .ok (.iload_n 1, 1) := by decide +kernel
theorem d_Wa_reach_54 : decode b_Wa_reach 54 = .ok (.iload 4, 2) := by decide +kernel
theorem d_Wa_reach_56 : decode b_Wa_reach 56 = .ok (.iastore, 1) := by decide +kernel
theorem d_Wa_reach_57 : decode b_Wa_reach 57 = .ok (.goto 24, 3) := by decide +kernel
theorem d_Wa_reach_60 : decode b_Wa_reach 60 = .ok (.iload_n 2, 1) := by decide +kernel
theorem d_Wa_reach_61 : decode b_Wa_reach 61 = .ok (.aload_n 0, 1) := by decide +kernel
theorem d_Wa_reach_62 : decode b_Wa_reach 62 = .ok (.getfield 9, 3) := by decide +kernel
theorem d_Wa_reach_65 : decode b_Wa_reach 65 = .ok (.iload_n 1, 1) := by decide +kernel
theorem d_Wa_reach_66 : decode b_Wa_reach 66 = .ok (.iaload, 1) := by decide +kernel
theorem d_Wa_reach_67 : decode b_Wa_reach 67 = .ok (.if_icmp .ne 14, 3) := by decide +kernel
theorem d_Wa_reach_70 : decode b_Wa_reach 70 = .ok (.aload_n 0, 1) := by decide +kernel
theorem d_Wa_reach_71 : decode b_Wa_reach 71 = .ok (.getfield 15, 3) := by decide +kernel
theorem d_Wa_reach_74 : decode b_Wa_reach 74 = .ok (.iload_n 1, 1) := by decide +kernel
theorem d_Wa_reach_75 : decode b_Wa_reach 75 = .ok (.dup2, 1) := by decide +kernel
theorem d_Wa_reach_76 : decode b_Wa_reach 76 = .ok (.iaload, 1) := by decide +kernel
theorem d_Wa_reach_77 : decode b_Wa_reach 77 = .ok (.iload 4, 2) := by decide +kernel
theorem d_Wa_reach_79 : decode b_Wa_reach 79 = .ok (.ior, 1) := by decide +kernel
theorem d_Wa_reach_80 : decode b_Wa_reach 80 = .ok (.iastore, 1) := by decide +kernel
theorem d_Wa_reach_81 : decode b_Wa_reach 81 = .ok (.return_, 1) := by decide +kernel
theorem d_Wa_followLinks_0 : decode b_Wa_followLinks 0 = .ok (.aload_n 1, 1) := by decide +kernel
theorem d_Wa_followLinks_1 : decode b_Wa_followLinks 1 = .ok (.iload_n 2, 1) := by decide +kernel
theorem d_Wa_followLinks_2 : decode b_Wa_followLinks 2 = .ok (.invokevirtual 35, 3) := by decide +kernel
theorem d_Wa_followLinks_5 : decode b_Wa_followLinks 5 = .ok (.ifCond .ne 4, 3) := by decide +kernel
theorem d_Wa_followLinks_8 : decode b_Wa_followLinks 8 = .ok (.return_, 1) := by decide +kernel
theorem d_Wa_followLinks_9 : decode b_Wa_followLinks 9 = .ok (.iconst 0, 1) := by decide +kernel
theorem d_Wa_followLinks_10 : decode b_Wa_followLinks 10 = .ok (.istore_n 3, 1) := by decide +kernel
theorem d_Wa_followLinks_11 : decode b_Wa_followLinks 11 = .ok (.iload_n 3, 1) := by decide +kernel
theorem d_Wa_followLinks_12 : decode b_Wa_followLinks 12 = .ok (.aload_n 1, 1) := by decide +kernel
theorem d_Wa_followLinks_13 : decode b_Wa_followLinks 13 = .ok (.getfield 41, 3) := by decide +kernel
theorem d_Wa_followLinks_16 : decode b_Wa_followLinks 16 = .ok (.iload_n 2, 1) := by decide +kernel
theorem d_Wa_followLinks_17 : decode b_Wa_followLinks 17 = .ok (.iaload, 1) := by decide +kernel
theorem d_Wa_followLinks_18 : decode b_Wa_followLinks 18 = .ok (.if_icmp .ge 75, 3) := by decide +kernel
theorem d_Wa_followLinks_21 : decode b_Wa_followLinks 21 = .ok (.aload_n 1, 1) := by decide +kernel
theorem d_Wa_followLinks_22 : decode b_Wa_followLinks 22 = .ok (.iload_n 2, 1) := by decide +kernel
theorem d_Wa_followLinks_23 : decode b_Wa_followLinks 23 = .ok (.iload_n 3, 1) := by decide +kernel
theorem d_Wa_followLinks_24 : decode b_Wa_followLinks 24 = .ok (.invokevirtual 44, 3) := by decide +kernel
theorem d_Wa_followLinks_27 : decode b_Wa_followLinks 27 = .ok (.istore 4, 2) := by decide +kernel
theorem d_Wa_followLinks_29 : decode b_Wa_followLinks 29 = .ok (.iload 4, 2) := by decide +kernel
theorem d_Wa_followLinks_31 : decode b_Wa_followLinks 31 = .ok (.bipush 64, 2) := by decide +kernel
theorem d_Wa_followLinks_33 : decode b_Wa_followLinks 33 = .ok (.irem, 1) := by decide +kernel
theorem d_Wa_followLinks_34 : decode b_Wa_followLinks 34 = .ok (.istore 5, 2) := by decide +kernel
theorem d_Wa_followLinks_36 : decode b_Wa_followLinks 36 = .ok (.iload 5, 2) := by decide +kernel
theorem d_Wa_followLinks_38 : decode b_Wa_followLinks 38 = .ok (.invokestatic 48, 3) := by decide +kernel
theorem d_Wa_followLinks_41 : decode b_Wa_followLinks 41 = .ok (.ifCond .eq 46, 3) := by decide +kernel
theorem d_Wa_followLinks_44 : decode b_Wa_followLinks 44 = .ok (.aload_n 1, 1) := by decide +kernel
theorem d_Wa_followLinks_45 : decode b_Wa_followLinks 45 = .ok (.iload 5, 2) := by decide +kernel
theorem d_Wa_followLinks_47 : decode b_Wa_followLinks 47 = .ok (.invokevirtual 35, 3) := by decide +kernel
theorem d_Wa_followLinks_50 : decode b_Wa_followLinks 50 = .ok (.ifCond .eq 37, 3) := by decide +kernel
theorem d_Wa_followLinks_53 : decode b_Wa_followLinks 53 = .ok (.aload_n 1, 1) := by decide +kernel
theorem d_Wa_followLinks_54 : decode b_Wa_followLinks 54 = .ok (.iload 5, 2) := by decide +kernel
theorem d_Wa_followLinks_56 : decode b_Wa_followLinks 56 = .ok (.iload_n 2, 1) := by decide +kernel
theorem d_Wa_followLinks_57 : decode b_Wa_followLinks 57 = .ok (.invokevirtual 51, 3) := by decide +kernel
theorem d_Wa_followLinks_60 : decode b_Wa_followLinks 60 = .ok (.ifCond .eq 27, 3) := by decide +kernel
theorem d_Wa_followLinks_63 : decode b_Wa_followLinks 63 = .ok (.aload_n 0, 1) := by decide +kernel
theorem d_Wa_followLinks_64 : decode b_Wa_followLinks 64 = .ok (.iload 5, 2) := by decide +kernel
theorem d_Wa_followLinks_66 : decode b_Wa_followLinks 66 = .ok (.aload_n 0, 1) := by decide +kernel
theorem d_Wa_followLinks_67 : decode b_Wa_followLinks 67 = .ok (.getfield 9, 3) := by decide +kernel
theorem d_Wa_followLinks_70 : decode b_Wa_followLinks 70 = .ok (.iload_n 2, 1) := by decide +kernel
theorem d_Wa_followLinks_71 : decode b_Wa_followLinks 71 = .ok (.iaload, 1) := by decide +kernel
theorem d_Wa_followLinks_72 : decode b_Wa_followLinks 72 = .ok (.iload 4, 2) := by decide +kernel
theorem d_Wa_followLinks_74 : decode b_Wa_followLinks 74 = .ok (.bipush 64, 2) := by decide +kernel
theorem d_Wa_followLinks_76 : decode b_Wa_followLinks 76 = .ok (.idiv, 1) := by decide +kernel
theorem d_Wa_followLinks_77 : decode b_Wa_followLinks 77 = .ok (.iadd, 1) := by decide +kernel
theorem d_Wa_followLinks_78 : decode b_Wa_followLinks 78 = .ok (.aload_n 0, 1) := by decide +kernel
theorem d_Wa_followLinks_79 : decode b_Wa_followLinks 79 = .ok (.getfield 15, 3) := by decide +kernel
theorem d_Wa_followLinks_82 : decode b_Wa_followLinks 82 = .ok (.iload_n 2, 1) := by decide +kernel
theorem d_Wa_followLinks_83 : decode b_Wa_followLinks 83 = .ok (.iaload, 1) := by decide +kernel
theorem d_Wa_followLinks_84 : decode b_Wa_followLinks 84 = .ok (.invokevirtual 55, 3) := by decide +kernel
theorem d_Wa_followLinks_87 : decode b_Wa_followLinks 87 = .ok (.iinc 3 1, 3) := by decide +kernel
theorem d_Wa_followLinks_90 : decode b_Wa_followLinks 90 = .ok (.goto (-79), 3) := by decide +kernel
theorem d_Wa_followLinks_93 : decode b_Wa_followLinks 93 = .ok (.return_, 1) := by decide +kernel
theorem d_Wa_find_0 : decode b_Wa_find 0 = .ok (.iconst 0, 1) := by decide +kernel
theorem d_Wa_find_1 : decode b_Wa_find 1 = .ok (.istore_n 3, 1) := by decide +kernel
theorem d_Wa_find_2 : decode b_Wa_find 2 = .ok (.iload_n 3, 1) := by decide +kernel
theorem d_Wa_find_3 : decode b_Wa_find 3 = .ok (.bipush 42, 2) := by decide +kernel
theorem d_Wa_find_5 : decode b_Wa_find 5 = .ok (.if_icmp .ge 31, 3) := by decide +kernel
theorem d_Wa_find_8 : decode b_Wa_find 8 = .ok (.aload_n 0, 1) := by decide +kernel
theorem d_Wa_find_9 : decode b_Wa_find 9 = .ok (.getfield 9, 3) := by decide +kernel
theorem d_Wa_find_12 : decode b_Wa_find 12 = .ok (.iload_n 3, 1) := by decide +kernel
theorem d_Wa_find_13 : decode b_Wa_find 13 = .ok (.ldc 22, 2) := by decide +kernel
theorem d_Wa_find_15 : decode b_Wa_find 15 = .ok (.iastore, 1) := by decide +kernel
theorem d_Wa_find_16 : decode b_Wa_find 16 = .ok (.aload_n 0, 1) := by decide +kernel
theorem d_Wa_find_17 : decode b_Wa_find 17 = .ok (.getfield 15, 3) := by decide +kernel
theorem d_Wa_find_20 : decode b_Wa_find 20 = .ok (.iload_n 3, 1) := by decide +kernel
theorem d_Wa_find_21 : decode b_Wa_find 21 = .ok (.iconst 0, 1) := by decide +kernel
theorem d_Wa_find_22 : decode b_Wa_find 22 = .ok (.iastore, 1) := by decide +kernel
theorem d_Wa_find_23 : decode b_Wa_find 23 = .ok (.aload_n 0, 1) := by decide +kernel
theorem d_Wa_find_24 : decode b_Wa_find 24 = .ok (.getfield 18, 3) := by decide +kernel
theorem d_Wa_find_27 : decode b_Wa_find 27 = .ok (.iload_n 3, 1) := by decide +kernel
theorem d_Wa_find_28 : decode b_Wa_find 28 = .ok (.iconst 0, 1) := by decide +kernel
theorem d_Wa_find_29 : decode b_Wa_find 29 = .ok (.bastore, 1) := by decide +kernel
theorem d_Wa_find_30 : decode b_Wa_find 30 = .ok (.iinc 3 1, 3) := by decide +kernel
theorem d_Wa_find_33 : decode b_Wa_find 33 = .ok (.goto (-31), 3) := by decide +kernel
theorem d_Wa_find_36 : decode b_Wa_find 36 = .ok (.aload_n 0, 1) := by decide +kernel
theorem d_Wa_find_37 : decode b_Wa_find 37 = .ok (.getfield 9, 3) := by decide +kernel
theorem d_Wa_find_40 : decode b_Wa_find 40 = .ok (.iload_n 2, 1) := by decide +kernel
theorem d_Wa_find_41 : decode b_Wa_find 41 = .ok (.iconst 0, 1) := by decide +kernel
theorem d_Wa_find_42 : decode b_Wa_find 42 = .ok (.iastore, 1) := by decide +kernel
theorem d_Wa_find_43 : decode b_Wa_find 43 = .ok (.aload_n 0, 1) := by decide +kernel
theorem d_Wa_find_44 : decode b_Wa_find 44 = .ok (.getfield 15, 3) := by decide +kernel
theorem d_Wa_find_47 : decode b_Wa_find 47 = .ok (.iload_n 2, 1) := by decide +kernel
theorem d_Wa_find_48 : decode b_Wa_find 48 = .ok (.bipush 64, 2) := by decide +kernel
theorem d_Wa_find_50 : decode b_Wa_find 50 = .ok (.iastore, 1) := by decide +kernel
theorem d_Wa_find_51 : decode b_Wa_find 51 = .ok (.iconst 0, 1) := by decide +kernel
theorem d_Wa_find_52 : decode b_Wa_find 52 = .ok (.istore_n 3, 1) := by decide +kernel
theorem d_Wa_find_53 : decode b_Wa_find 53 = .ok (.iload_n 3, 1) := by decide +kernel
theorem d_Wa_find_54 : decode b_Wa_find 54 = .ok (.bipush 42, 2) := by decide +kernel
theorem d_Wa_find_56 : decode b_Wa_find 56 = .ok (.if_icmp .ge 36, 3) := by decide +kernel
theorem d_Wa_find_59 : decode b_Wa_find 59 = .ok (.aload_n 0, 1) := by decide +kernel
theorem d_Wa_find_60 : decode b_Wa_find 60 = .ok (.invokevirtual 23, 3) := by decide +kernel
theorem d_Wa_find_63 : decode b_Wa_find 63 = .ok (.istore 4, 2) := by decide +kernel
theorem d_Wa_find_65 : decode b_Wa_find 65 = .ok (.iload 4, 2) := by decide +kernel
theorem d_Wa_find_67 : decode b_Wa_find 67 = .ok (.ifCond .ge 4, 3) := by decide +kernel
theorem d_Wa_find_70 : decode b_Wa_find 70 = .ok (.return_, 1) := by decide +kernel
theorem d_Wa_find_71 : decode b_Wa_find 71 = .ok (.aload_n 0, 1) := by decide +kernel
theorem d_Wa_find_72 : decode b_Wa_find 72 = .ok (.getfield 18, 3) := by decide +kernel
theorem d_Wa_find_75 : decode b_Wa_find 75 = .ok (.iload 4, 2) := by decide +kernel
theorem d_Wa_find_77 : decode b_Wa_find 77 = .ok (.iconst 1, 1) := by decide +kernel
theorem d_Wa_find_78 : decode b_Wa_find 78 = .ok (.bastore, 1) := by decide +kernel
theorem d_Wa_find_79 : decode b_Wa_find 79 = .ok (.aload_n 0, 1) := by decide +kernel
theorem d_Wa_find_80 : decode b_Wa_find 80 = .ok (.aload_n 1, 1) := by decide +kernel
theorem d_Wa_find_81 : decode b_Wa_find 81 = .ok (.iload 4, 2) := by decide +kernel
theorem d_Wa_find_83 : decode b_Wa_find 83 = .ok (.invokevirtual 27, 3) := by decide +kernel
theorem d_Wa_find_86 : decode b_Wa_find 86 = .ok (.iinc 3 1, 3) := by decide +kernel
theorem d_Wa_find_89 : decode b_Wa_find 89 = .ok (.goto (-36), 3) := by decide +kernel
theorem d_Wa_find_92 : decode b_Wa_find 92 = .ok (.return_, 1) := by decide +kernel
theorem d_Wa_wayTo_0 : decode b_Wa_wayTo 0 = .ok (.iload_n 1, 1) := by decide +kernel
theorem d_Wa_wayTo_1 : decode b_Wa_wayTo 1 = .ok (.invokestatic 62, 3) := by decide +kernel
theorem d_Wa_wayTo_4 : decode b_Wa_wayTo 4 = .ok (.ifCond .eq 18, 3) := by decide +kernel
theorem d_Wa_wayTo_7 : decode b_Wa_wayTo 7 = .ok (.aload_n 0, 1) := by decide +kernel
theorem d_Wa_wayTo_8 : decode b_Wa_wayTo 8 = .ok (.getfield 9, 3) := by decide +kernel
theorem d_Wa_wayTo_11 : decode b_Wa_wayTo 11 = .ok (.iload_n 1, 1) := by decide +kernel
theorem d_Wa_wayTo_12 : decode b_Wa_wayTo 12 = .ok (.iconst 0, 1) := by decide +kernel
theorem d_Wa_wayTo_13 : decode b_Wa_wayTo 13 = .ok (.invokestatic 65, 3) := by decide +kernel
theorem d_Wa_wayTo_16 : decode b_Wa_wayTo 16 = .ok (.iaload, 1) := by decide +kernel
theorem d_Wa_wayTo_17 : decode b_Wa_wayTo 17 = .ok (.ldc 22, 2) := by decide +kernel
theorem d_Wa_wayTo_19 : decode b_Wa_wayTo 19 = .ok (.if_icmp .lt 5, 3) := by decide +kernel
theorem d_Wa_wayTo_22 : decode b_Wa_wayTo 22 = .ok (.iconst (-1), 1) := by decide +kernel
theorem d_Wa_wayTo_23 : decode b_Wa_wayTo 23 = .ok (.ireturn, 1) := by decide +kernel
theorem d_Wa_wayTo_24 : decode b_Wa_wayTo 24 = .ok (.aload_n 0, 1) := by decide +kernel
theorem d_Wa_wayTo_25 : decode b_Wa_wayTo 25 = .ok (.getfield 15, 3) := by decide +kernel
theorem d_Wa_wayTo_28 : decode b_Wa_wayTo 28 = .ok (.iload_n 1, 1) := by decide +kernel
theorem d_Wa_wayTo_29 : decode b_Wa_wayTo 29 = .ok (.iconst 0, 1) := by decide +kernel
theorem d_Wa_wayTo_30 : decode b_Wa_wayTo 30 = .ok (.invokestatic 65, 3) := by decide +kernel
theorem d_Wa_wayTo_33 : decode b_Wa_wayTo 33 = .ok (.iaload, 1) := by decide +kernel
theorem d_Wa_wayTo_34 : decode b_Wa_wayTo 34 = .ok (.istore_n 2, 1) := by decide +kernel
theorem d_Wa_wayTo_35 : decode b_Wa_wayTo 35 = .ok (.iconst 0, 1) := by decide +kernel
theorem d_Wa_wayTo_36 : decode b_Wa_wayTo 36 = .ok (.istore_n 3, 1) := by decide +kernel
theorem d_Wa_wayTo_37 : decode b_Wa_wayTo 37 = .ok (.iload_n 3, 1) := by decide +kernel
theorem d_Wa_wayTo_38 : decode b_Wa_wayTo 38 = .ok (.bipush 6, 2) := by decide +kernel
theorem d_Wa_wayTo_40 : decode b_Wa_wayTo 40 = .ok (.if_icmp .ge 33, 3) := by decide +kernel
theorem d_Wa_wayTo_43 : decode b_Wa_wayTo 43 = .ok (.iload_n 2, 1) := by decide +kernel
theorem d_Wa_wayTo_44 : decode b_Wa_wayTo 44 = .ok (.iload_n 3, 1) := by decide +kernel
theorem d_Wa_wayTo_45 : decode b_Wa_wayTo 45 = .ok (.ishr, 1) := by decide +kernel
theorem d_Wa_wayTo_46 : decode b_Wa_wayTo 46 = .ok (.iconst 1, 1) := by decide +kernel
theorem d_Wa_wayTo_47 : decode b_Wa_wayTo 47 = .ok (.iand, 1) := by decide +kernel
theorem d_Wa_wayTo_48 : decode b_Wa_wayTo 48 = .ok (.ifCond .eq 19, 3) := by decide +kernel
theorem d_Wa_wayTo_51 : decode b_Wa_wayTo 51 = .ok (.iload_n 3, 1) := by decide +kernel
theorem d_Wa_wayTo_52 : decode b_Wa_wayTo 52 = .ok (.bipush 8, 2) := by decide +kernel
theorem d_Wa_wayTo_54 : decode b_Wa_wayTo 54 = .ok (.aload_n 0, 1) := by decide +kernel
theorem d_Wa_wayTo_55 : decode b_Wa_wayTo 55 = .ok (.getfield 9, 3) := by decide +kernel
theorem d_Wa_wayTo_58 : decode b_Wa_wayTo 58 = .ok (.iload_n 1, 1) := by decide +kernel
theorem d_Wa_wayTo_59 : decode b_Wa_wayTo 59 = .ok (.iconst 0, 1) := by decide +kernel
theorem d_Wa_wayTo_60 : decode b_Wa_wayTo 60 = .ok (.invokestatic 65, 3) := by decide +kernel
theorem d_Wa_wayTo_63 : decode b_Wa_wayTo 63 = .ok (.iaload, 1) := by decide +kernel
theorem d_Wa_wayTo_64 : decode b_Wa_wayTo 64 = .ok (.imul, 1) := by decide +kernel
theorem d_Wa_wayTo_65 : decode b_Wa_wayTo 65 = .ok (.iadd, 1) := by decide +kernel
theorem d_Wa_wayTo_66 : decode b_Wa_wayTo 66 = .ok (.ireturn, 1) := by decide +kernel
theorem d_Wa_wayTo_67 : decode b_Wa_wayTo 67 = .ok (.iinc 3 1, 3) := by decide +kernel
theorem d_Wa_wayTo_70 : decode b_Wa_wayTo 70 = .ok (.goto (-33), 3) := by decide +kernel
theorem d_Wa_wayTo_73 : decode b_Wa_wayTo 73 = .ok (.iconst (-1), 1) := by decide +kernel
theorem d_Wa_wayTo_74 : decode b_Wa_wayTo 74 = .ok (.ireturn, 1) := by decide +kernel
theorem d_Wa_nearer_0 : decode b_Wa_nearer 0 = .ok (.iload_n 1, 1) := by decide +kernel
theorem d_Wa_nearer_1 : decode b_Wa_nearer 1 = .ok (.invokestatic 62, 3) := by decide +kernel
theorem d_Wa_nearer_4 : decode b_Wa_nearer 4 = .ok (.ifCond .eq 16, 3) := by decide +kernel
theorem d_Wa_nearer_7 : decode b_Wa_nearer 7 = .ok (.aload_n 0, 1) := by decide +kernel
theorem d_Wa_nearer_8 : decode b_Wa_nearer 8 = .ok (.getfield 9, 3) := by decide +kernel
theorem d_Wa_nearer_11 : decode b_Wa_nearer 11 = .ok (.iload_n 1, 1) := by decide +kernel
theorem d_Wa_nearer_12 : decode b_Wa_nearer 12 = .ok (.iconst 0, 1) := by decide +kernel
theorem d_Wa_nearer_13 : decode b_Wa_nearer 13 = .ok (.invokestatic 65, 3) := by decide +kernel
theorem d_Wa_nearer_16 : decode b_Wa_nearer 16 = .ok (.iaload, 1) := by decide +kernel
theorem d_Wa_nearer_17 : decode b_Wa_nearer 17 = .ok (.goto 5, 3) := by decide +kernel
theorem d_Wa_nearer_20 : decode b_Wa_nearer 20 = .ok (.ldc 22, 2) := by decide +kernel
theorem d_Wa_nearer_22 : decode b_Wa_nearer 22 = .ok (.istore_n 3, 1) := by decide +kernel
theorem d_Wa_nearer_23 : decode b_Wa_nearer 23 = .ok (.aload_n 0, 1) := by decide +kernel
theorem d_Wa_nearer_24 : decode b_Wa_nearer 24 = .ok (.getfield 9, 3) := by decide +kernel
theorem d_Wa_nearer_27 : decode b_Wa_nearer 27 = .ok (.iload_n 2, 1) := by decide +kernel
theorem d_Wa_nearer_28 : decode b_Wa_nearer 28 = .ok (.iconst 0, 1) := by decide +kernel
theorem d_Wa_nearer_29 : decode b_Wa_nearer 29 = .ok (.invokestatic 65, 3) := by decide +kernel
theorem d_Wa_nearer_32 : decode b_Wa_nearer 32 = .ok (.iaload, 1) := by decide +kernel
theorem d_Wa_nearer_33 : decode b_Wa_nearer 33 = .ok (.iload_n 3, 1) := by decide +kernel
theorem d_Wa_nearer_34 : decode b_Wa_nearer 34 = .ok (.if_icmp .ge 7, 3) := by decide +kernel
theorem d_Wa_nearer_37 : decode b_Wa_nearer 37 = .ok (.iload_n 2, 1) := by decide +kernel
theorem d_Wa_nearer_38 : decode b_Wa_nearer 38 = .ok (.goto 4, 3) := by decide +kernel
theorem d_Wa_nearer_41 : decode b_Wa_nearer 41 = .ok (.iload_n 1, 1) := by decide +kernel
theorem d_Wa_nearer_42 : decode b_Wa_nearer 42 = .ok (.ireturn, 1) := by decide +kernel
theorem d_AR_wayToArea_0 : decode b_AR_wayToArea 0 = .ok (.aload_n 0, 1) := by decide +kernel
theorem d_AR_wayToArea_1 : decode b_AR_wayToArea 1 = .ok (.iload_n 1, 1) := by decide +kernel
theorem d_AR_wayToArea_2 : decode b_AR_wayToArea 2 = .ok (.iconst 2, 1) := by decide +kernel
theorem d_AR_wayToArea_3 : decode b_AR_wayToArea 3 = .ok (.invokevirtual 87, 3) := by decide +kernel
theorem d_AR_wayToArea_6 : decode b_AR_wayToArea 6 = .ok (.astore_n 3, 1) := by decide +kernel
theorem d_AR_wayToArea_7 : decode b_AR_wayToArea 7 = .ok (.aload_n 0, 1) := by decide +kernel
theorem d_AR_wayToArea_8 : decode b_AR_wayToArea 8 = .ok (.getfield 47, 3) := by decide +kernel
theorem d_AR_wayToArea_11 : decode b_AR_wayToArea 11 = .ok (.aload_n 3, 1) := by decide +kernel
theorem d_AR_wayToArea_12 : decode b_AR_wayToArea 12 = .ok (.iload_n 1, 1) := by decide +kernel
theorem d_AR_wayToArea_13 : decode b_AR_wayToArea 13 = .ok (.iconst 0, 1) := by decide +kernel
theorem d_AR_wayToArea_14 : decode b_AR_wayToArea 14 = .ok (.invokestatic 215, 3) := by decide +kernel
theorem d_AR_wayToArea_17 : decode b_AR_wayToArea 17 = .ok (.invokevirtual 263, 3) := by decide +kernel
theorem d_AR_wayToArea_20 : decode b_AR_wayToArea 20 = .ok (.iconst (-1), 1) := by decide +kernel
theorem d_AR_wayToArea_21 : decode b_AR_wayToArea 21 = .ok (.istore 4, 2) := by decide +kernel
theorem d_AR_wayToArea_23 : decode b_AR_wayToArea 23 = .ok (.iconst 0, 1) := by decide +kernel
theorem d_AR_wayToArea_24 : decode b_AR_wayToArea 24 = .ok (.istore 5, 2) := by decide +kernel
theorem d_AR_wayToArea_26 : decode b_AR_wayToArea 26 = .ok (.iload 5, 2) := by decide +kernel
theorem d_AR_wayToArea_28 : decode b_AR_wayToArea 28 = .ok (.bipush 6, 2) := by decide +kernel
theorem d_AR_wayToArea_30 : decode b_AR_wayToArea 30 = .ok (.if_icmp .ge 43, 3) := by decide +kernel
theorem d_AR_wayToArea_33 : decode b_AR_wayToArea 33 = .ok (.iload 5, 2) := by decide +kernel
theorem d_AR_wayToArea_35 : decode b_AR_wayToArea 35 = .ok (.iload_n 1, 1) := by decide +kernel
theorem d_AR_wayToArea_36 : decode b_AR_wayToArea 36 = .ok (.if_icmp .eq 31, 3) := by decide +kernel
theorem d_AR_wayToArea_39 : decode b_AR_wayToArea 39 = .ok (.aload_n 3, 1) := by decide +kernel
theorem d_AR_wayToArea_40 : decode b_AR_wayToArea 40 = .ok (.getfield 275, 3) := by decide +kernel
theorem d_AR_wayToArea_43 : decode b_AR_wayToArea 43 = .ok (.iload 5, 2) := by decide +kernel
theorem d_AR_wayToArea_45 : decode b_AR_wayToArea 45 = .ok (.iconst 0, 1) := by decide +kernel
theorem d_AR_wayToArea_46 : decode b_AR_wayToArea 46 = .ok (.invokestatic 215, 3) := by decide +kernel
theorem d_AR_wayToArea_49 : decode b_AR_wayToArea 49 = .ok (.iaload, 1) := by decide +kernel
theorem d_AR_wayToArea_50 : decode b_AR_wayToArea 50 = .ok (.iload_n 2, 1) := by decide +kernel
theorem d_AR_wayToArea_51 : decode b_AR_wayToArea 51 = .ok (.if_icmp .ne 16, 3) := by decide +kernel
theorem d_AR_wayToArea_54 : decode b_AR_wayToArea 54 = .ok (.aload_n 0, 1) := by decide +kernel
theorem d_AR_wayToArea_55 : decode b_AR_wayToArea 55 = .ok (.getfield 47, 3) := by decide +kernel
theorem d_AR_wayToArea_58 : decode b_AR_wayToArea 58 = .ok (.iload 4, 2) := by decide +kernel
theorem d_AR_wayToArea_60 : decode b_AR_wayToArea 60 = .ok (.iload 5, 2) := by decide +kernel
theorem d_AR_wayToArea_62 : decode b_AR_wayToArea 62 = .ok (.invokevirtual 276, 3) := by decide +kernel
theorem d_AR_wayToArea_65 : decode b_AR_wayToArea 65 = .ok (.istore 4, 2) := by decide +kernel
theorem d_AR_wayToArea_67 : decode b_AR_wayToArea 67 = .ok (.iinc 5 1, 3) := by decide +kernel
theorem d_AR_wayToArea_70 : decode b_AR_wayToArea 70 = .ok (.goto (-44), 3) := by decide +kernel
theorem d_AR_wayToArea_73 : decode b_AR_wayToArea 73 = .ok (.aload_n 0, 1) := by decide +kernel
theorem d_AR_wayToArea_74 : decode b_AR_wayToArea 74 = .ok (.getfield 47, 3) := by decide +kernel
theorem d_AR_wayToArea_77 : decode b_AR_wayToArea 77 = .ok (.iload 4, 2) := by decide +kernel
theorem d_AR_wayToArea_79 : decode b_AR_wayToArea 79 = .ok (.invokevirtual 266, 3) := by decide +kernel
theorem d_AR_wayToArea_82 : decode b_AR_wayToArea 82 = .ok (.ireturn, 1) := by decide +kernel
theorem d_AR_wayToExit_0 : decode b_AR_wayToExit 0 = .ok (.aload_n 0, 1) := by decide +kernel
theorem d_AR_wayToExit_1 : decode b_AR_wayToExit 1 = .ok (.iload_n 1, 1) := by decide +kernel
theorem d_AR_wayToExit_2 : decode b_AR_wayToExit 2 = .ok (.iconst 1, 1) := by decide +kernel
theorem d_AR_wayToExit_3 : decode b_AR_wayToExit 3 = .ok (.invokevirtual 87, 3) := by decide +kernel
theorem d_AR_wayToExit_6 : decode b_AR_wayToExit 6 = .ok (.astore_n 2, 1) := by decide +kernel
theorem d_AR_wayToExit_7 : decode b_AR_wayToExit 7 = .ok (.aload_n 0, 1) := by decide +kernel
theorem d_AR_wayToExit_8 : decode b_AR_wayToExit 8 = .ok (.getfield 47, 3) := by decide +kernel
theorem d_AR_wayToExit_11 : decode b_AR_wayToExit 11 = .ok (.aload_n 2, 1) := by decide +kernel
theorem d_AR_wayToExit_12 : decode b_AR_wayToExit 12 = .ok (.iload_n 1, 1) := by decide +kernel
theorem d_AR_wayToExit_13 : decode b_AR_wayToExit 13 = .ok (.iconst 0, 1) := by decide +kernel
theorem d_AR_wayToExit_14 : decode b_AR_wayToExit 14 = .ok (.invokestatic 215, 3) := by decide +kernel
theorem d_AR_wayToExit_17 : decode b_AR_wayToExit 17 = .ok (.invokevirtual 263, 3) := by decide +kernel
theorem d_AR_wayToExit_20 : decode b_AR_wayToExit 20 = .ok (.iconst (-1), 1) := by decide +kernel
theorem d_AR_wayToExit_21 : decode b_AR_wayToExit 21 = .ok (.istore_n 3, 1) := by decide +kernel
theorem d_AR_wayToExit_22 : decode b_AR_wayToExit 22 = .ok (.iconst 0, 1) := by decide +kernel
theorem d_AR_wayToExit_23 : decode b_AR_wayToExit 23 = .ok (.istore 4, 2) := by decide +kernel
theorem d_AR_wayToExit_25 : decode b_AR_wayToExit 25 = .ok (.iload 4, 2) := by decide +kernel
theorem d_AR_wayToExit_27 : decode b_AR_wayToExit 27 = .ok (.bipush 6, 2) := by decide +kernel
theorem d_AR_wayToExit_29 : decode b_AR_wayToExit 29 = .ok (.if_icmp .ge 40, 3) := by decide +kernel
theorem d_AR_wayToExit_32 : decode b_AR_wayToExit 32 = .ok (.iload 4, 2) := by decide +kernel
theorem d_AR_wayToExit_34 : decode b_AR_wayToExit 34 = .ok (.iload_n 1, 1) := by decide +kernel
theorem d_AR_wayToExit_35 : decode b_AR_wayToExit 35 = .ok (.if_icmp .eq 28, 3) := by decide +kernel
theorem d_AR_wayToExit_38 : decode b_AR_wayToExit 38 = .ok (.aload_n 2, 1) := by decide +kernel
theorem d_AR_wayToExit_39 : decode b_AR_wayToExit 39 = .ok (.getfield 279, 3) := by decide +kernel
theorem d_AR_wayToExit_42 : decode b_AR_wayToExit 42 = .ok (.iload 4, 2) := by decide +kernel
theorem d_AR_wayToExit_44 : decode b_AR_wayToExit 44 = .ok (.iconst 0, 1) := by decide +kernel
theorem d_AR_wayToExit_45 : decode b_AR_wayToExit 45 = .ok (.invokestatic 215, 3) := by decide +kernel
theorem d_AR_wayToExit_48 : decode b_AR_wayToExit 48 = .ok (.baload, 1) := by decide +kernel
theorem d_AR_wayToExit_49 : decode b_AR_wayToExit 49 = .ok (.ifCond .eq 14, 3) := by decide +kernel
theorem d_AR_wayToExit_52 : decode b_AR_wayToExit 52 = .ok (.aload_n 0, 1) := by decide +kernel
theorem d_AR_wayToExit_53 : decode b_AR_wayToExit 53 = .ok (.getfield 47, 3) := by decide +kernel
theorem d_AR_wayToExit_56 : decode b_AR_wayToExit 56 = .ok (.iload_n 3, 1) := by decide +kernel
theorem d_AR_wayToExit_57 : decode b_AR_wayToExit 57 = .ok (.iload 4, 2) := by decide +kernel
theorem d_AR_wayToExit_59 : decode b_AR_wayToExit 59 = .ok (.invokevirtual 276, 3) := by decide +kernel
theorem d_AR_wayToExit_62 : decode b_AR_wayToExit 62 = .ok (.istore_n 3, 1) := by decide +kernel
theorem d_AR_wayToExit_63 : decode b_AR_wayToExit 63 = .ok (.iinc 4 1, 3) := by decide +kernel
theorem d_AR_wayToExit_66 : decode b_AR_wayToExit 66 = .ok (.goto (-41), 3) := by decide +kernel
theorem d_AR_wayToExit_69 : decode b_AR_wayToExit 69 = .ok (.aload_n 0, 1) := by decide +kernel
theorem d_AR_wayToExit_70 : decode b_AR_wayToExit 70 = .ok (.getfield 47, 3) := by decide +kernel
theorem d_AR_wayToExit_73 : decode b_AR_wayToExit 73 = .ok (.iload_n 3, 1) := by decide +kernel
theorem d_AR_wayToExit_74 : decode b_AR_wayToExit 74 = .ok (.invokevirtual 266, 3) := by decide +kernel
theorem d_AR_wayToExit_77 : decode b_AR_wayToExit 77 = .ok (.ireturn, 1) := by decide +kernel
theorem d_AR_wayFrom_0 : decode b_AR_wayFrom 0 = .ok (.aload_n 0, 1) := by decide +kernel
theorem d_AR_wayFrom_1 : decode b_AR_wayFrom 1 = .ok (.iload_n 1, 1) := by decide +kernel
theorem d_AR_wayFrom_2 : decode b_AR_wayFrom 2 = .ok (.iconst 1, 1) := by decide +kernel
theorem d_AR_wayFrom_3 : decode b_AR_wayFrom 3 = .ok (.invokevirtual 134, 3) := by decide +kernel
theorem d_AR_wayFrom_6 : decode b_AR_wayFrom 6 = .ok (.ifCond .eq 51, 3) := by decide +kernel
theorem d_AR_wayFrom_9 : decode b_AR_wayFrom 9 = .ok (.aload_n 0, 1) := by decide +kernel
theorem d_AR_wayFrom_10 : decode b_AR_wayFrom 10 = .ok (.getfield 9, 3) := by decide +kernel
theorem d_AR_wayFrom_13 : decode b_AR_wayFrom 13 = .ok (.iload_n 1, 1) := by decide +kernel
theorem d_AR_wayFrom_14 : decode b_AR_wayFrom 14 = .ok (.iaload, 1) := by decide +kernel
theorem d_AR_wayFrom_15 : decode b_AR_wayFrom 15 = .ok (.aload_n 0, 1) := by decide +kernel
theorem d_AR_wayFrom_16 : decode b_AR_wayFrom 16 = .ok (.getfield 9, 3) := by decide +kernel
theorem d_AR_wayFrom_19 : decode b_AR_wayFrom 19 = .ok (.iload_n 2, 1) := by decide +kernel
theorem d_AR_wayFrom_20 : decode b_AR_wayFrom 20 = .ok (.iaload, 1) := by decide +kernel
theorem d_AR_wayFrom_21 : decode b_AR_wayFrom 21 = .ok (.if_icmp .ne 36, 3) := by decide +kernel
theorem d_AR_wayFrom_24 : decode b_AR_wayFrom 24 = .ok (.aload_n 0, 1) := by decide +kernel
theorem d_AR_wayFrom_25 : decode b_AR_wayFrom 25 = .ok (.getfield 47, 3) := by decide +kernel
theorem d_AR_wayFrom_28 : decode b_AR_wayFrom 28 = .ok (.aload_n 0, 1) := by decide +kernel
theorem d_AR_wayFrom_29 : decode b_AR_wayFrom 29 = .ok (.iload_n 1, 1) := by decide +kernel
theorem d_AR_wayFrom_30 : decode b_AR_wayFrom 30 = .ok (.iconst 1, 1) := by decide +kernel
theorem d_AR_wayFrom_31 : decode b_AR_wayFrom 31 = .ok (.invokevirtual 87, 3) := by decide +kernel
theorem d_AR_wayFrom_34 : decode b_AR_wayFrom 34 = .ok (.iload_n 1, 1) := by decide +kernel
theorem d_AR_wayFrom_35 : decode b_AR_wayFrom 35 = .ok (.iconst 0, 1) := by decide +kernel
theorem d_AR_wayFrom_36 : decode b_AR_wayFrom 36 = .ok (.invokestatic 215, 3) := by decide +kernel
theorem d_AR_wayFrom_39 : decode b_AR_wayFrom 39 = .ok (.invokevirtual 263, 3) := by decide +kernel
theorem d_AR_wayFrom_42 : decode b_AR_wayFrom 42 = .ok (.aload_n 0, 1) := by decide +kernel
theorem d_AR_wayFrom_43 : decode b_AR_wayFrom 43 = .ok (.getfield 47, 3) := by decide +kernel
theorem d_AR_wayFrom_46 : decode b_AR_wayFrom 46 = .ok (.iload_n 2, 1) := by decide +kernel
theorem d_AR_wayFrom_47 : decode b_AR_wayFrom 47 = .ok (.invokevirtual 266, 3) := by decide +kernel
theorem d_AR_wayFrom_50 : decode b_AR_wayFrom 50 = .ok (.istore_n 3, 1) := by decide +kernel
theorem d_AR_wayFrom_51 : decode b_AR_wayFrom 51 = .ok (.iload_n 3, 1) := by decide +kernel
theorem d_AR_wayFrom_52 : decode b_AR_wayFrom 52 = .ok (.ifCond .lt 5, 3) := by decide +kernel
theorem d_AR_wayFrom_55 : decode b_AR_wayFrom 55 = .ok (.iload_n 3, 1) := by decide +kernel
theorem d_AR_wayFrom_56 : decode b_AR_wayFrom 56 = .ok (.ireturn, 1) := by decide +kernel
theorem d_AR_wayFrom_57 : decode b_AR_wayFrom 57 = .ok (.aload_n 0, 1) := by decide +kernel
theorem d_AR_wayFrom_58 : decode b_AR_wayFrom 58 = .ok (.iload_n 1, 1) := by decide +kernel
theorem d_AR_wayFrom_59 : decode b_AR_wayFrom 59 = .ok (.iconst 2, 1) := by decide +kernel
theorem d_AR_wayFrom_60 : decode b_AR_wayFrom 60 = .ok (.invokevirtual 134, 3) := by decide +kernel
theorem d_AR_wayFrom_63 : decode b_AR_wayFrom 63 = .ok (.ifCond .eq 17, 3) := by decide +kernel
theorem d_AR_wayFrom_66 : decode b_AR_wayFrom 66 = .ok (.aload_n 0, 1) := by decide +kernel
theorem d_AR_wayFrom_67 : decode b_AR_wayFrom 67 = .ok (.iload_n 1, 1) := by decide +kernel
theorem d_AR_wayFrom_68 : decode b_AR_wayFrom 68 = .ok (.aload_n 0, 1) := by decide +kernel
theorem d_AR_wayFrom_69 : decode b_AR_wayFrom 69 = .ok (.getfield 9, 3) := by decide +kernel
theorem d_AR_wayFrom_72 : decode b_AR_wayFrom 72 = .ok (.iload_n 2, 1) := by decide +kernel
theorem d_AR_wayFrom_73 : decode b_AR_wayFrom 73 = .ok (.iaload, 1) := by decide +kernel
theorem d_AR_wayFrom_74 : decode b_AR_wayFrom 74 = .ok (.invokevirtual 269, 3) := by decide +kernel
theorem d_AR_wayFrom_77 : decode b_AR_wayFrom 77 = .ok (.goto 8, 3) := by decide +kernel
theorem d_AR_wayFrom_80 : decode b_AR_wayFrom 80 = .ok (.aload_n 0, 1) := by decide +kernel
theorem d_AR_wayFrom_81 : decode b_AR_wayFrom 81 = .ok (.iload_n 1, 1) := by decide +kernel
theorem d_AR_wayFrom_82 : decode b_AR_wayFrom 82 = .ok (.invokevirtual 272, 3) := by decide +kernel
theorem d_AR_wayFrom_85 : decode b_AR_wayFrom 85 = .ok (.ireturn, 1) := by decide +kernel
theorem d_AR_route_0 : decode b_AR_route 0 = .ok (.iload_n 1, 1) := by decide +kernel
theorem d_AR_route_1 : decode b_AR_route 1 = .ok (.invokestatic 51, 3) := by decide +kernel
theorem d_AR_route_4 : decode b_AR_route 4 = .ok (.ifCond .eq 15, 3) := by decide +kernel
theorem d_AR_route_7 : decode b_AR_route 7 = .ok (.iload_n 2, 1) := by decide +kernel
theorem d_AR_route_8 : decode b_AR_route 8 = .ok (.invokestatic 51, 3) := by decide +kernel
theorem d_AR_route_11 : decode b_AR_route 11 = .ok (.ifCond .eq 8, 3) := by decide +kernel
theorem d_AR_route_14 : decode b_AR_route 14 = .ok (.iload_n 1, 1) := by decide +kernel
theorem d_AR_route_15 : decode b_AR_route 15 = .ok (.iload_n 2, 1) := by decide +kernel
theorem d_AR_route_16 : decode b_AR_route 16 = .ok (.if_icmp .ne 5, 3) := by decide +kernel
theorem d_AR_route_19 : decode b_AR_route 19 = .ok (.iconst (-1), 1) := by decide +kernel
theorem d_AR_route_20 : decode b_AR_route 20 = .ok (.ireturn, 1) := by decide +kernel
theorem d_AR_route_21 : decode b_AR_route 21 = .ok (.aload_n 0, 1) := by decide +kernel
theorem d_AR_route_22 : decode b_AR_route 22 = .ok (.iload_n 1, 1) := by decide +kernel
theorem d_AR_route_23 : decode b_AR_route 23 = .ok (.iload_n 2, 1) := by decide +kernel
theorem d_AR_route_24 : decode b_AR_route 24 = .ok (.invokevirtual 171, 3) := by decide +kernel
theorem d_AR_route_27 : decode b_AR_route 27 = .ok (.ireturn, 1) := by decide +kernel
theorem d_AR_trace_0 : decode b_AR_trace 0 = .ok (.iload_n 1, 1) := by decide +kernel
theorem d_AR_trace_1 : decode b_AR_trace 1 = .ok (.invokestatic 51, 3) := by decide +kernel
theorem d_AR_trace_4 : decode b_AR_trace 4 = .ok (.ifCond .eq 10, 3) := by decide +kernel
theorem d_AR_trace_7 : decode b_AR_trace 7 = .ok (.iload_n 2, 1) := by decide +kernel
theorem d_AR_trace_8 : decode b_AR_trace 8 = .ok (.invokestatic 51, 3) := by decide +kernel
theorem d_AR_trace_11 : decode b_AR_trace 11 = .ok (.ifCond .ne 5, 3) := by decide +kernel
theorem d_AR_trace_14 : decode b_AR_trace 14 = .ok (.iconst (-1), 1) := by decide +kernel
theorem d_AR_trace_15 : decode b_AR_trace 15 = .ok (.ireturn, 1) := by decide +kernel
theorem d_AR_trace_16 : decode b_AR_trace 16 = .ok (.iload_n 1, 1) := by decide +kernel
theorem d_AR_trace_17 : decode b_AR_trace 17 = .ok (.istore_n 3, 1) := by decide +kernel
theorem d_AR_trace_18 : decode b_AR_trace 18 = .ok (.iconst 0, 1) := by decide +kernel
theorem d_AR_trace_19 : decode b_AR_trace 19 = .ok (.istore 4, 2) := by decide +kernel
theorem d_AR_trace_21 : decode b_AR_trace 21 = .ok (.iload 4, 2) := by decide +kernel
theorem d_AR_trace_23 : decode b_AR_trace 23 = .ok (.bipush 10, 2) := by decide +kernel
theorem d_AR_trace_25 : decode b_AR_trace 25 = .ok (.if_icmp .gt 38, 3) := by decide +kernel
theorem d_AR_trace_28 : decode b_AR_trace 28 = .ok (.iload_n 3, 1) := by decide +kernel
theorem d_AR_trace_29 : decode b_AR_trace 29 = .ok (.iload_n 2, 1) := by decide +kernel
theorem d_AR_trace_30 : decode b_AR_trace 30 = .ok (.if_icmp .ne 6, 3) := by decide +kernel
theorem d_AR_trace_33 : decode b_AR_trace 33 = .ok (.iload 4, 2) := by decide +kernel
theorem d_AR_trace_35 : decode b_AR_trace 35 = .ok (.ireturn, 1) := by decide +kernel
theorem d_AR_trace_36 : decode b_AR_trace 36 = .ok (.aload_n 0, 1) := by decide +kernel
theorem d_AR_trace_37 : decode b_AR_trace 37 = .ok (.iload_n 3, 1) := by decide +kernel
theorem d_AR_trace_38 : decode b_AR_trace 38 = .ok (.iload_n 2, 1) := by decide +kernel
theorem d_AR_trace_39 : decode b_AR_trace 39 = .ok (.invokevirtual 171, 3) := by decide +kernel
theorem d_AR_trace_42 : decode b_AR_trace 42 = .ok (.istore 5, 2) := by decide +kernel
theorem d_AR_trace_44 : decode b_AR_trace 44 = .ok (.iload 5, 2) := by decide +kernel
theorem d_AR_trace_46 : decode b_AR_trace 46 = .ok (.ifCond .ge 5, 3) := by decide +kernel
theorem d_AR_trace_49 : decode b_AR_trace 49 = .ok (.iconst (-1), 1) := by decide +kernel
theorem d_AR_trace_50 : decode b_AR_trace 50 = .ok (.ireturn, 1) := by decide +kernel
theorem d_AR_trace_51 : decode b_AR_trace 51 = .ok (.iload 5, 2) := by decide +kernel
theorem d_AR_trace_53 : decode b_AR_trace 53 = .ok (.bipush 8, 2) := by decide +kernel
theorem d_AR_trace_55 : decode b_AR_trace 55 = .ok (.irem, 1) := by decide +kernel
theorem d_AR_trace_56 : decode b_AR_trace 56 = .ok (.istore_n 3, 1) := by decide +kernel
theorem d_AR_trace_57 : decode b_AR_trace 57 = .ok (.iinc 4 1, 3) := by decide +kernel
theorem d_AR_trace_60 : decode b_AR_trace 60 = .ok (.goto (-39), 3) := by decide +kernel
theorem d_AR_trace_63 : decode b_AR_trace 63 = .ok (.iconst (-1), 1) := by decide +kernel
theorem d_AR_trace_64 : decode b_AR_trace 64 = .ok (.ireturn, 1) := by decide +kernel
end
section
/-! the class: the cells of an object in the order in which its constructor makes them -/
abbrev cz_Z : Type := va_G × (Nat → Nat) × (Nat → ClassId)
def fz_AR (Z : cz_Z) (k : Nat) (f : Nat → Int32) : List Value := [.ref (Z.2.1 1), .ref (Z.2.1 2), .ref (Z.2.1 3), .ref (Z.2.1 6), .ref (Z.2.1 13), .ref (Z.2.1 146), .ref (Z.2.1 148)]
def fz_Wi (Z : cz_Z) (k : Nat) (f : Nat → Int32) : List Value := [.ref (Z.2.1 4), .ref (Z.2.1 5)]
def fz_He (Z : cz_Z) (k : Nat) (f : Nat → Int32) : List Value := [.ref (Z.2.1 (k + 1)), .ref (Z.2.1 (k + 2))]
def fz_Dr (Z : cz_Z) (k : Nat) (f : Nat → Int32) : List Value := [.ref (Z.2.1 147), .int (f 0), .int (f 1), .int (f 2)]
def fz_Ba (Z : cz_Z) (k : Nat) (f : Nat → Int32) : List Value := [.ref (Z.2.1 (k + 1)), .ref (Z.2.1 (k + 2)), .ref (Z.2.1 (k + 3)), .ref (Z.2.1 (k + 4)), .ref (Z.2.1 (k + 5)), .ref (Z.2.1 (k + 6)), .ref (Z.2.1 (k + 7)), .ref (Z.2.1 (k + 8)), .ref (Z.2.1 (k + 9)), .ref (Z.2.1 (k + 10))]
def fz_Wa (Z : cz_Z) (k : Nat) (f : Nat → Int32) : List Value := [.ref (Z.2.1 149), .ref (Z.2.1 150), .ref (Z.2.1 151)]
def ez_C (Z : cz_Z) (k : Nat) (f : Nat → Int32) : va_E :=
  if k < 14 then
    if k = 0 then .inr (0, fz_AR Z k f) else if k = 1 then .inl (Z.2.2 0, 6, .inl f) else if k = 2 then .inl (Z.2.2 0, 6, .inl f) else if k = 3 then .inr (1, fz_Wi Z k f) else if k = 4 then .inl (Z.2.2 0, 36, .inl f) else if k = 5 then .inl (Z.2.2 0, 36, .inl f)
    else if k = 6 then .inl (Z.2.2 2, 2, .inr (.inr (.inr (.inr (fun j => some (Z.2.1 (7 + 3 * j))))))) else if k = 7 then .inr (2, fz_He Z k f) else if k = 8 then .inl (Z.2.2 0, 216, .inl f) else if k = 9 then .inl (Z.2.2 1, 216, .inl f)
    else if k = 10 then .inr (2, fz_He Z k f) else if k = 11 then .inl (Z.2.2 0, 216, .inl f) else if k = 12 then .inl (Z.2.2 1, 216, .inl f) else .inl (Z.2.2 3, 12, .inr (.inr (.inr (.inr (fun j => some (Z.2.1 (14 + 11 * j)))))))
  else if k < 146 then
    if (k - 14) % 11 = 0 then .inr (4, fz_Ba Z k f) else if (k - 14) % 11 = 5 then .inl (Z.2.2 1, 42, .inl f) else if (k - 14) % 11 = 8 then .inl (Z.2.2 0, 420, .inl f) else .inl (Z.2.2 0, 42, .inl f)
  else if k = 146 then .inr (3, fz_Dr Z k f) else if k = 147 then .inl (Z.2.2 0, 10, .inl f) else if k = 148 then .inr (5, fz_Wa Z k f) else if k = 149 then .inl (Z.2.2 0, 42, .inl f) else if k = 150 then .inl (Z.2.2 0, 42, .inl f) else .inl (Z.2.2 1, 42, .inl f)
def tz_C (Z : cz_Z) : List (ClassId × FieldType) := [(Z.2.2 0, .int), (Z.2.2 1, .boolean), (Z.2.2 2, .object "AreaRouters$Hearing"), (Z.2.2 3, .object "AreaRouters$Base")]
def cz_G (Z : cz_Z) : jz_G := (Z.1, kz_cl, tz_C Z, 152, Z.2.1, ez_C Z)
def kz_Ba (o : Nat) : Prop := ∃ i, i < 12 ∧ o = 14 + 11 * i
def kz_He (o : Nat) : Prop := ∃ i, i < 2 ∧ o = 7 + 3 * i
theorem ke_Ba {j : Nat} {i : Int32} (e : jz_ix 12 i = some j) : kz_Ba (14 + 11 * j) := ⟨j, (jz_ix_in e).2.2, rfl⟩
theorem ke_He {j : Nat} {i : Int32} (e : jz_ix 2 i = some j) : kz_He (7 + 3 * j) := ⟨j, (jz_ix_in e).2.2, rfl⟩
theorem oz_AR {Z : cz_Z} : iz_O (cz_G Z) 0 0 (fz_AR Z 0) := ⟨by show (0 : Nat) < 152; decide, fun f => rfl⟩
theorem zk_AR_areas {Z : cz_Z} : iz_I (cz_G Z) 1 6 := ⟨by show (1 : Nat) < 152; decide, 0, Z.2.2 0, rfl, fun f => rfl⟩
theorem zk_AR_levelSets {Z : cz_Z} : iz_I (cz_G Z) 2 6 := ⟨by show (2 : Nat) < 152; decide, 0, Z.2.2 0, rfl, fun f => rfl⟩
theorem zk_AR_hearings {Z : cz_Z} : iz_A (cz_G Z) 6 2 "AreaRouters$Hearing" (fun j => 7 + 3 * j) := ⟨by show (6 : Nat) < 152; decide, 2, Z.2.2 2, rfl, fun f => rfl⟩
theorem zk_AR_bases {Z : cz_Z} : iz_A (cz_G Z) 13 12 "AreaRouters$Base" (fun j => 14 + 11 * j) := ⟨by show (13 : Nat) < 152; decide, 3, Z.2.2 3, rfl, fun f => rfl⟩
theorem oz_Wi {Z : cz_Z} : iz_O (cz_G Z) 3 1 (fz_Wi Z 3) := ⟨by show (3 : Nat) < 152; decide, fun f => rfl⟩
theorem zk_Wi_metrics {Z : cz_Z} : iz_I (cz_G Z) 4 36 := ⟨by show (4 : Nat) < 152; decide, 0, Z.2.2 0, rfl, fun f => rfl⟩
theorem zk_Wi_priorities {Z : cz_Z} : iz_I (cz_G Z) 5 36 := ⟨by show (5 : Nat) < 152; decide, 0, Z.2.2 0, rfl, fun f => rfl⟩
theorem oz_He {Z : cz_Z} {o : Nat} (h : kz_He o) : iz_O (cz_G Z) o 2 (fz_He Z o) := by
  obtain ⟨i, hi, rfl⟩ := h
  rcases (show i = 0 ∨ i = 1 by omega) with rfl | rfl
  · exact ⟨by show (7 : Nat) < 152; decide, fun f => rfl⟩
  · exact ⟨by show (10 : Nat) < 152; decide, fun f => rfl⟩
theorem zk_He_ticksLeft {Z : cz_Z} {o : Nat} (h : kz_He o) : iz_I (cz_G Z) (o + 1) 216 := by
  obtain ⟨i, hi, rfl⟩ := h
  rcases (show i = 0 ∨ i = 1 by omega) with rfl | rfl
  · exact ⟨by show (8 : Nat) < 152; decide, 0, Z.2.2 0, rfl, fun f => rfl⟩
  · exact ⟨by show (11 : Nat) < 152; decide, 0, Z.2.2 0, rfl, fun f => rfl⟩
theorem zk_He_named {Z : cz_Z} {o : Nat} (h : kz_He o) : iz_Z (cz_G Z) (o + 2) 216 := by
  obtain ⟨i, hi, rfl⟩ := h
  rcases (show i = 0 ∨ i = 1 by omega) with rfl | rfl
  · exact ⟨by show (9 : Nat) < 152; decide, 1, Z.2.2 1, rfl, fun f => rfl⟩
  · exact ⟨by show (12 : Nat) < 152; decide, 1, Z.2.2 1, rfl, fun f => rfl⟩
theorem oz_Dr {Z : cz_Z} : iz_O (cz_G Z) 146 3 (fz_Dr Z 146) := ⟨by show (146 : Nat) < 152; decide, fun f => rfl⟩
theorem zk_Dr_links {Z : cz_Z} : iz_I (cz_G Z) 147 10 := ⟨by show (147 : Nat) < 152; decide, 0, Z.2.2 0, rfl, fun f => rfl⟩
theorem oz_Ba {Z : cz_Z} {o : Nat} (h : kz_Ba o) : iz_O (cz_G Z) o 4 (fz_Ba Z o) := by
  obtain ⟨i, hi, rfl⟩ := h
  refine ⟨by show 14 + 11 * i < 152; omega, fun f => ?_⟩
  show ez_C Z (14 + 11 * i) f = _
  unfold ez_C
  rw [if_neg (by omega), if_pos (by omega), if_pos (by omega)]
theorem zk_Ba_sequences {Z : cz_Z} {o : Nat} (h : kz_Ba o) : iz_I (cz_G Z) (o + 1) 42 := by
  obtain ⟨i, hi, rfl⟩ := h
  refine ⟨by show 14 + 11 * i + 1 < 152; omega, 0, Z.2.2 0, rfl, fun f => ?_⟩
  show ez_C Z (14 + 11 * i + 1) f = _
  unfold ez_C
  rw [if_neg (by omega), if_pos (by omega), if_neg (by omega), if_neg (by omega), if_neg (by omega)]
theorem zk_Ba_greatest {Z : cz_Z} {o : Nat} (h : kz_Ba o) : iz_I (cz_G Z) (o + 2) 42 := by
  obtain ⟨i, hi, rfl⟩ := h
  refine ⟨by show 14 + 11 * i + 2 < 152; omega, 0, Z.2.2 0, rfl, fun f => ?_⟩
  show ez_C Z (14 + 11 * i + 2) f = _
  unfold ez_C
  rw [if_neg (by omega), if_pos (by omega), if_neg (by omega), if_neg (by omega), if_neg (by omega)]
theorem zk_Ba_lives {Z : cz_Z} {o : Nat} (h : kz_Ba o) : iz_I (cz_G Z) (o + 3) 42 := by
  obtain ⟨i, hi, rfl⟩ := h
  refine ⟨by show 14 + 11 * i + 3 < 152; omega, 0, Z.2.2 0, rfl, fun f => ?_⟩
  show ez_C Z (14 + 11 * i + 3) f = _
  unfold ez_C
  rw [if_neg (by omega), if_pos (by omega), if_neg (by omega), if_neg (by omega), if_neg (by omega)]
theorem zk_Ba_ticksAtRest {Z : cz_Z} {o : Nat} (h : kz_Ba o) : iz_I (cz_G Z) (o + 4) 42 := by
  obtain ⟨i, hi, rfl⟩ := h
  refine ⟨by show 14 + 11 * i + 4 < 152; omega, 0, Z.2.2 0, rfl, fun f => ?_⟩
  show ez_C Z (14 + 11 * i + 4) f = _
  unfold ez_C
  rw [if_neg (by omega), if_pos (by omega), if_neg (by omega), if_neg (by omega), if_neg (by omega)]
theorem zk_Ba_exits {Z : cz_Z} {o : Nat} (h : kz_Ba o) : iz_Z (cz_G Z) (o + 5) 42 := by
  obtain ⟨i, hi, rfl⟩ := h
  refine ⟨by show 14 + 11 * i + 5 < 152; omega, 1, Z.2.2 1, rfl, fun f => ?_⟩
  show ez_C Z (14 + 11 * i + 5) f = _
  unfold ez_C
  rw [if_neg (by omega), if_pos (by omega), if_neg (by omega), if_pos (by omega)]
theorem zk_Ba_areas {Z : cz_Z} {o : Nat} (h : kz_Ba o) : iz_I (cz_G Z) (o + 6) 42 := by
  obtain ⟨i, hi, rfl⟩ := h
  refine ⟨by show 14 + 11 * i + 6 < 152; omega, 0, Z.2.2 0, rfl, fun f => ?_⟩
  show ez_C Z (14 + 11 * i + 6) f = _
  unfold ez_C
  rw [if_neg (by omega), if_pos (by omega), if_neg (by omega), if_neg (by omega), if_neg (by omega)]
theorem zk_Ba_linkCounts {Z : cz_Z} {o : Nat} (h : kz_Ba o) : iz_I (cz_G Z) (o + 7) 42 := by
  obtain ⟨i, hi, rfl⟩ := h
  refine ⟨by show 14 + 11 * i + 7 < 152; omega, 0, Z.2.2 0, rfl, fun f => ?_⟩
  show ez_C Z (14 + 11 * i + 7) f = _
  unfold ez_C
  rw [if_neg (by omega), if_pos (by omega), if_neg (by omega), if_neg (by omega), if_neg (by omega)]
theorem zk_Ba_links {Z : cz_Z} {o : Nat} (h : kz_Ba o) : iz_I (cz_G Z) (o + 8) 420 := by
  obtain ⟨i, hi, rfl⟩ := h
  refine ⟨by show 14 + 11 * i + 8 < 152; omega, 0, Z.2.2 0, rfl, fun f => ?_⟩
  show ez_C Z (14 + 11 * i + 8) f = _
  unfold ez_C
  rw [if_neg (by omega), if_pos (by omega), if_neg (by omega), if_neg (by omega), if_pos (by omega)]
theorem zk_Ba_due {Z : cz_Z} {o : Nat} (h : kz_Ba o) : iz_I (cz_G Z) (o + 9) 42 := by
  obtain ⟨i, hi, rfl⟩ := h
  refine ⟨by show 14 + 11 * i + 9 < 152; omega, 0, Z.2.2 0, rfl, fun f => ?_⟩
  show ez_C Z (14 + 11 * i + 9) f = _
  unfold ez_C
  rw [if_neg (by omega), if_pos (by omega), if_neg (by omega), if_neg (by omega), if_neg (by omega)]
theorem zk_Ba_asked {Z : cz_Z} {o : Nat} (h : kz_Ba o) : iz_I (cz_G Z) (o + 10) 42 := by
  obtain ⟨i, hi, rfl⟩ := h
  refine ⟨by show 14 + 11 * i + 10 < 152; omega, 0, Z.2.2 0, rfl, fun f => ?_⟩
  show ez_C Z (14 + 11 * i + 10) f = _
  unfold ez_C
  rw [if_neg (by omega), if_pos (by omega), if_neg (by omega), if_neg (by omega), if_neg (by omega)]
theorem oz_Wa {Z : cz_Z} : iz_O (cz_G Z) 148 5 (fz_Wa Z 148) := ⟨by show (148 : Nat) < 152; decide, fun f => rfl⟩
theorem zk_Wa_costs {Z : cz_Z} : iz_I (cz_G Z) 149 42 := ⟨by show (149 : Nat) < 152; decide, 0, Z.2.2 0, rfl, fun f => rfl⟩
theorem zk_Wa_firstHops {Z : cz_Z} : iz_I (cz_G Z) 150 42 := ⟨by show (150 : Nat) < 152; decide, 0, Z.2.2 0, rfl, fun f => rfl⟩
theorem zk_Wa_settled {Z : cz_Z} : iz_Z (cz_G Z) 151 42 := ⟨by show (151 : Nat) < 152; decide, 1, Z.2.2 1, rfl, fun f => rfl⟩
theorem gf_Ba_15 {X : jz_X} {nL : Nat} {cc : ByteArray} {ret : Option FieldType} {rm0 : Room} {Q : State → Prop} {m : jz_M} {lv : List (Nat × Value)} {st : List Value} {Z : cz_Z} (pc : Nat) (C : jz_C X nL cc R_Ba ret rm0 (cz_G Z)) (d : decode cc pc = .ok (.getfield 15, 3)) {o : Nat} (ko : kz_Ba o) (kk : jz_J X nL (cz_G Z) Q m lv (pc + 3) (.ref (gz_ad (cz_G Z) (o + 2)) :: st)) : jz_J X nL (cz_G Z) Q m lv pc (.ref (gz_ad (cz_G Z) o) :: st) := jr_get pc (ref := R_Ba) C d (oz_Ba ko) rfl in_Ba (j := 1) (by decide) (List.mem_of_getElem? (i := 155) (by decide +kernel)) rfl rfl kk
theorem gf_Ba_18 {X : jz_X} {nL : Nat} {cc : ByteArray} {ret : Option FieldType} {rm0 : Room} {Q : State → Prop} {m : jz_M} {lv : List (Nat × Value)} {st : List Value} {Z : cz_Z} (pc : Nat) (C : jz_C X nL cc R_Ba ret rm0 (cz_G Z)) (d : decode cc pc = .ok (.getfield 18, 3)) {o : Nat} (ko : kz_Ba o) (kk : jz_J X nL (cz_G Z) Q m lv (pc + 3) (.ref (gz_ad (cz_G Z) (o + 3)) :: st)) : jz_J X nL (cz_G Z) Q m lv pc (.ref (gz_ad (cz_G Z) o) :: st) := jr_get pc (ref := R_Ba) C d (oz_Ba ko) rfl in_Ba (j := 2) (by decide) (List.mem_of_getElem? (i := 156) (by decide +kernel)) rfl rfl kk
theorem gf_Ba_21 {X : jz_X} {nL : Nat} {cc : ByteArray} {ret : Option FieldType} {rm0 : Room} {Q : State → Prop} {m : jz_M} {lv : List (Nat × Value)} {st : List Value} {Z : cz_Z} (pc : Nat) (C : jz_C X nL cc R_Ba ret rm0 (cz_G Z)) (d : decode cc pc = .ok (.getfield 21, 3)) {o : Nat} (ko : kz_Ba o) (kk : jz_J X nL (cz_G Z) Q m lv (pc + 3) (.ref (gz_ad (cz_G Z) (o + 4)) :: st)) : jz_J X nL (cz_G Z) Q m lv pc (.ref (gz_ad (cz_G Z) o) :: st) := jr_get pc (ref := R_Ba) C d (oz_Ba ko) rfl in_Ba (j := 3) (by decide) (List.mem_of_getElem? (i := 157) (by decide +kernel)) rfl rfl kk
theorem gf_Ba_24 {X : jz_X} {nL : Nat} {cc : ByteArray} {ret : Option FieldType} {rm0 : Room} {Q : State → Prop} {m : jz_M} {lv : List (Nat × Value)} {st : List Value} {Z : cz_Z} (pc : Nat) (C : jz_C X nL cc R_Ba ret rm0 (cz_G Z)) (d : decode cc pc = .ok (.getfield 24, 3)) {o : Nat} (ko : kz_Ba o) (kk : jz_J X nL (cz_G Z) Q m lv (pc + 3) (.ref (gz_ad (cz_G Z) (o + 5)) :: st)) : jz_J X nL (cz_G Z) Q m lv pc (.ref (gz_ad (cz_G Z) o) :: st) := jr_get pc (ref := R_Ba) C d (oz_Ba ko) rfl in_Ba (j := 4) (by decide) (List.mem_of_getElem? (i := 158) (by decide +kernel)) rfl rfl kk
theorem gf_Ba_28 {X : jz_X} {nL : Nat} {cc : ByteArray} {ret : Option FieldType} {rm0 : Room} {Q : State → Prop} {m : jz_M} {lv : List (Nat × Value)} {st : List Value} {Z : cz_Z} (pc : Nat) (C : jz_C X nL cc R_Ba ret rm0 (cz_G Z)) (d : decode cc pc = .ok (.getfield 28, 3)) {o : Nat} (ko : kz_Ba o) (kk : jz_J X nL (cz_G Z) Q m lv (pc + 3) (.ref (gz_ad (cz_G Z) (o + 6)) :: st)) : jz_J X nL (cz_G Z) Q m lv pc (.ref (gz_ad (cz_G Z) o) :: st) := jr_get pc (ref := R_Ba) C d (oz_Ba ko) rfl in_Ba (j := 5) (by decide) (List.mem_of_getElem? (i := 160) (by decide +kernel)) rfl rfl kk
theorem gf_Ba_31 {X : jz_X} {nL : Nat} {cc : ByteArray} {ret : Option FieldType} {rm0 : Room} {Q : State → Prop} {m : jz_M} {lv : List (Nat × Value)} {st : List Value} {Z : cz_Z} (pc : Nat) (C : jz_C X nL cc R_Ba ret rm0 (cz_G Z)) (d : decode cc pc = .ok (.getfield 31, 3)) {o : Nat} (ko : kz_Ba o) (kk : jz_J X nL (cz_G Z) Q m lv (pc + 3) (.ref (gz_ad (cz_G Z) (o + 7)) :: st)) : jz_J X nL (cz_G Z) Q m lv pc (.ref (gz_ad (cz_G Z) o) :: st) := jr_get pc (ref := R_Ba) C d (oz_Ba ko) rfl in_Ba (j := 6) (by decide) (List.mem_of_getElem? (i := 162) (by decide +kernel)) rfl rfl kk
theorem gf_Ba_34 {X : jz_X} {nL : Nat} {cc : ByteArray} {ret : Option FieldType} {rm0 : Room} {Q : State → Prop} {m : jz_M} {lv : List (Nat × Value)} {st : List Value} {Z : cz_Z} (pc : Nat) (C : jz_C X nL cc R_Ba ret rm0 (cz_G Z)) (d : decode cc pc = .ok (.getfield 34, 3)) {o : Nat} (ko : kz_Ba o) (kk : jz_J X nL (cz_G Z) Q m lv (pc + 3) (.ref (gz_ad (cz_G Z) (o + 8)) :: st)) : jz_J X nL (cz_G Z) Q m lv pc (.ref (gz_ad (cz_G Z) o) :: st) := jr_get pc (ref := R_Ba) C d (oz_Ba ko) rfl in_Ba (j := 7) (by decide) (List.mem_of_getElem? (i := 164) (by decide +kernel)) rfl rfl kk
theorem gf_Ba_37 {X : jz_X} {nL : Nat} {cc : ByteArray} {ret : Option FieldType} {rm0 : Room} {Q : State → Prop} {m : jz_M} {lv : List (Nat × Value)} {st : List Value} {Z : cz_Z} (pc : Nat) (C : jz_C X nL cc R_Ba ret rm0 (cz_G Z)) (d : decode cc pc = .ok (.getfield 37, 3)) {o : Nat} (ko : kz_Ba o) (kk : jz_J X nL (cz_G Z) Q m lv (pc + 3) (.ref (gz_ad (cz_G Z) (o + 9)) :: st)) : jz_J X nL (cz_G Z) Q m lv pc (.ref (gz_ad (cz_G Z) o) :: st) := jr_get pc (ref := R_Ba) C d (oz_Ba ko) rfl in_Ba (j := 8) (by decide) (List.mem_of_getElem? (i := 165) (by decide +kernel)) rfl rfl kk
theorem gf_Ba_40 {X : jz_X} {nL : Nat} {cc : ByteArray} {ret : Option FieldType} {rm0 : Room} {Q : State → Prop} {m : jz_M} {lv : List (Nat × Value)} {st : List Value} {Z : cz_Z} (pc : Nat) (C : jz_C X nL cc R_Ba ret rm0 (cz_G Z)) (d : decode cc pc = .ok (.getfield 40, 3)) {o : Nat} (ko : kz_Ba o) (kk : jz_J X nL (cz_G Z) Q m lv (pc + 3) (.ref (gz_ad (cz_G Z) (o + 10)) :: st)) : jz_J X nL (cz_G Z) Q m lv pc (.ref (gz_ad (cz_G Z) o) :: st) := jr_get pc (ref := R_Ba) C d (oz_Ba ko) rfl in_Ba (j := 9) (by decide) (List.mem_of_getElem? (i := 166) (by decide +kernel)) rfl rfl kk
theorem gf_Ba_69 {X : jz_X} {nL : Nat} {cc : ByteArray} {ret : Option FieldType} {rm0 : Room} {Q : State → Prop} {m : jz_M} {lv : List (Nat × Value)} {st : List Value} {Z : cz_Z} (pc : Nat) (C : jz_C X nL cc R_Ba ret rm0 (cz_G Z)) (d : decode cc pc = .ok (.getfield 69, 3)) (kk : jz_J X nL (cz_G Z) Q m lv (pc + 3) (.int (m 146 2) :: st)) : jz_J X nL (cz_G Z) Q m lv pc (.ref (gz_ad (cz_G Z) 146) :: st) := jr_getN pc (host := "AreaRouters") (ref := R_Dr) C d oz_Dr rfl in_Dr (j := 3) (by decide) (List.mem_of_getElem? (i := 201) (by decide +kernel)) rfl rfl kk
theorem gf_Ba_75 {X : jz_X} {nL : Nat} {cc : ByteArray} {ret : Option FieldType} {rm0 : Room} {Q : State → Prop} {m : jz_M} {lv : List (Nat × Value)} {st : List Value} {Z : cz_Z} (pc : Nat) (C : jz_C X nL cc R_Ba ret rm0 (cz_G Z)) (d : decode cc pc = .ok (.getfield 75, 3)) (kk : jz_J X nL (cz_G Z) Q m lv (pc + 3) (.int (m 146 0) :: st)) : jz_J X nL (cz_G Z) Q m lv pc (.ref (gz_ad (cz_G Z) 146) :: st) := jr_getN pc (host := "AreaRouters") (ref := R_Dr) C d oz_Dr rfl in_Dr (j := 1) (by decide) (List.mem_of_getElem? (i := 197) (by decide +kernel)) rfl rfl kk
theorem gf_Ba_79 {X : jz_X} {nL : Nat} {cc : ByteArray} {ret : Option FieldType} {rm0 : Room} {Q : State → Prop} {m : jz_M} {lv : List (Nat × Value)} {st : List Value} {Z : cz_Z} (pc : Nat) (C : jz_C X nL cc R_Ba ret rm0 (cz_G Z)) (d : decode cc pc = .ok (.getfield 79, 3)) (kk : jz_J X nL (cz_G Z) Q m lv (pc + 3) (.ref (gz_ad (cz_G Z) 147) :: st)) : jz_J X nL (cz_G Z) Q m lv pc (.ref (gz_ad (cz_G Z) 146) :: st) := jr_getN pc (host := "AreaRouters") (ref := R_Dr) C d oz_Dr rfl in_Dr (j := 0) (by decide) (List.mem_of_getElem? (i := 195) (by decide +kernel)) rfl rfl kk
theorem gf_Ba_80 {X : jz_X} {nL : Nat} {cc : ByteArray} {ret : Option FieldType} {rm0 : Room} {Q : State → Prop} {m : jz_M} {lv : List (Nat × Value)} {st : List Value} {Z : cz_Z} (pc : Nat) (C : jz_C X nL cc R_Ba ret rm0 (cz_G Z)) (d : decode cc pc = .ok (.getfield 80, 3)) (kk : jz_J X nL (cz_G Z) Q m lv (pc + 3) (.int (m 146 1) :: st)) : jz_J X nL (cz_G Z) Q m lv pc (.ref (gz_ad (cz_G Z) 146) :: st) := jr_getN pc (host := "AreaRouters") (ref := R_Dr) C d oz_Dr rfl in_Dr (j := 2) (by decide) (List.mem_of_getElem? (i := 199) (by decide +kernel)) rfl rfl kk
theorem gf_Ba_9 {X : jz_X} {nL : Nat} {cc : ByteArray} {ret : Option FieldType} {rm0 : Room} {Q : State → Prop} {m : jz_M} {lv : List (Nat × Value)} {st : List Value} {Z : cz_Z} (pc : Nat) (C : jz_C X nL cc R_Ba ret rm0 (cz_G Z)) (d : decode cc pc = .ok (.getfield 9, 3)) {o : Nat} (ko : kz_Ba o) (kk : jz_J X nL (cz_G Z) Q m lv (pc + 3) (.ref (gz_ad (cz_G Z) (o + 1)) :: st)) : jz_J X nL (cz_G Z) Q m lv pc (.ref (gz_ad (cz_G Z) o) :: st) := jr_get pc (ref := R_Ba) C d (oz_Ba ko) rfl in_Ba (j := 0) (by decide) (List.mem_of_getElem? (i := 154) (by decide +kernel)) rfl rfl kk
theorem gf_Dr_15 {X : jz_X} {nL : Nat} {cc : ByteArray} {ret : Option FieldType} {rm0 : Room} {Q : State → Prop} {m : jz_M} {lv : List (Nat × Value)} {st : List Value} {Z : cz_Z} (pc : Nat) (C : jz_C X nL cc R_Dr ret rm0 (cz_G Z)) (d : decode cc pc = .ok (.getfield 15, 3)) (kk : jz_J X nL (cz_G Z) Q m lv (pc + 3) (.int (m 146 0) :: st)) : jz_J X nL (cz_G Z) Q m lv pc (.ref (gz_ad (cz_G Z) 146) :: st) := jr_get pc (ref := R_Dr) C d oz_Dr rfl in_Dr (j := 1) (by decide) (List.mem_of_getElem? (i := 196) (by decide +kernel)) rfl rfl kk
theorem gf_Dr_9 {X : jz_X} {nL : Nat} {cc : ByteArray} {ret : Option FieldType} {rm0 : Room} {Q : State → Prop} {m : jz_M} {lv : List (Nat × Value)} {st : List Value} {Z : cz_Z} (pc : Nat) (C : jz_C X nL cc R_Dr ret rm0 (cz_G Z)) (d : decode cc pc = .ok (.getfield 9, 3)) (kk : jz_J X nL (cz_G Z) Q m lv (pc + 3) (.ref (gz_ad (cz_G Z) 147) :: st)) : jz_J X nL (cz_G Z) Q m lv pc (.ref (gz_ad (cz_G Z) 146) :: st) := jr_get pc (ref := R_Dr) C d oz_Dr rfl in_Dr (j := 0) (by decide) (List.mem_of_getElem? (i := 194) (by decide +kernel)) rfl rfl kk
theorem gf_He_11 {X : jz_X} {nL : Nat} {cc : ByteArray} {ret : Option FieldType} {rm0 : Room} {Q : State → Prop} {m : jz_M} {lv : List (Nat × Value)} {st : List Value} {Z : cz_Z} (pc : Nat) (C : jz_C X nL cc R_He ret rm0 (cz_G Z)) (d : decode cc pc = .ok (.getfield 11, 3)) {o : Nat} (ko : kz_He o) (kk : jz_J X nL (cz_G Z) Q m lv (pc + 3) (.ref (gz_ad (cz_G Z) (o + 1)) :: st)) : jz_J X nL (cz_G Z) Q m lv pc (.ref (gz_ad (cz_G Z) o) :: st) := jr_get pc (ref := R_He) C d (oz_He ko) rfl in_He (j := 0) (by decide) (List.mem_of_getElem? (i := 139) (by decide +kernel)) rfl rfl kk
theorem gf_He_15 {X : jz_X} {nL : Nat} {cc : ByteArray} {ret : Option FieldType} {rm0 : Room} {Q : State → Prop} {m : jz_M} {lv : List (Nat × Value)} {st : List Value} {Z : cz_Z} (pc : Nat) (C : jz_C X nL cc R_He ret rm0 (cz_G Z)) (d : decode cc pc = .ok (.getfield 15, 3)) {o : Nat} (ko : kz_He o) (kk : jz_J X nL (cz_G Z) Q m lv (pc + 3) (.ref (gz_ad (cz_G Z) (o + 2)) :: st)) : jz_J X nL (cz_G Z) Q m lv pc (.ref (gz_ad (cz_G Z) o) :: st) := jr_get pc (ref := R_He) C d (oz_He ko) rfl in_He (j := 1) (by decide) (List.mem_of_getElem? (i := 140) (by decide +kernel)) rfl rfl kk
theorem gf_Wa_15 {X : jz_X} {nL : Nat} {cc : ByteArray} {ret : Option FieldType} {rm0 : Room} {Q : State → Prop} {m : jz_M} {lv : List (Nat × Value)} {st : List Value} {Z : cz_Z} (pc : Nat) (C : jz_C X nL cc R_Wa ret rm0 (cz_G Z)) (d : decode cc pc = .ok (.getfield 15, 3)) (kk : jz_J X nL (cz_G Z) Q m lv (pc + 3) (.ref (gz_ad (cz_G Z) 150) :: st)) : jz_J X nL (cz_G Z) Q m lv pc (.ref (gz_ad (cz_G Z) 148) :: st) := jr_get pc (ref := R_Wa) C d oz_Wa rfl in_Wa (j := 1) (by decide) (List.mem_of_getElem? (i := 219) (by decide +kernel)) rfl rfl kk
theorem gf_Wa_18 {X : jz_X} {nL : Nat} {cc : ByteArray} {ret : Option FieldType} {rm0 : Room} {Q : State → Prop} {m : jz_M} {lv : List (Nat × Value)} {st : List Value} {Z : cz_Z} (pc : Nat) (C : jz_C X nL cc R_Wa ret rm0 (cz_G Z)) (d : decode cc pc = .ok (.getfield 18, 3)) (kk : jz_J X nL (cz_G Z) Q m lv (pc + 3) (.ref (gz_ad (cz_G Z) 151) :: st)) : jz_J X nL (cz_G Z) Q m lv pc (.ref (gz_ad (cz_G Z) 148) :: st) := jr_get pc (ref := R_Wa) C d oz_Wa rfl in_Wa (j := 2) (by decide) (List.mem_of_getElem? (i := 220) (by decide +kernel)) rfl rfl kk
theorem gf_Wa_41 {X : jz_X} {nL : Nat} {cc : ByteArray} {ret : Option FieldType} {rm0 : Room} {Q : State → Prop} {m : jz_M} {lv : List (Nat × Value)} {st : List Value} {Z : cz_Z} (pc : Nat) (C : jz_C X nL cc R_Wa ret rm0 (cz_G Z)) (d : decode cc pc = .ok (.getfield 41, 3)) {o : Nat} (ko : kz_Ba o) (kk : jz_J X nL (cz_G Z) Q m lv (pc + 3) (.ref (gz_ad (cz_G Z) (o + 7)) :: st)) : jz_J X nL (cz_G Z) Q m lv pc (.ref (gz_ad (cz_G Z) o) :: st) := jr_getN pc (host := "AreaRouters") (ref := R_Ba) C d (oz_Ba ko) rfl in_Ba (j := 6) (by decide) (List.mem_of_getElem? (i := 163) (by decide +kernel)) rfl rfl kk
theorem gf_Wa_9 {X : jz_X} {nL : Nat} {cc : ByteArray} {ret : Option FieldType} {rm0 : Room} {Q : State → Prop} {m : jz_M} {lv : List (Nat × Value)} {st : List Value} {Z : cz_Z} (pc : Nat) (C : jz_C X nL cc R_Wa ret rm0 (cz_G Z)) (d : decode cc pc = .ok (.getfield 9, 3)) (kk : jz_J X nL (cz_G Z) Q m lv (pc + 3) (.ref (gz_ad (cz_G Z) 149) :: st)) : jz_J X nL (cz_G Z) Q m lv pc (.ref (gz_ad (cz_G Z) 148) :: st) := jr_get pc (ref := R_Wa) C d oz_Wa rfl in_Wa (j := 0) (by decide) (List.mem_of_getElem? (i := 218) (by decide +kernel)) rfl rfl kk
theorem gf_Wi_15 {X : jz_X} {nL : Nat} {cc : ByteArray} {ret : Option FieldType} {rm0 : Room} {Q : State → Prop} {m : jz_M} {lv : List (Nat × Value)} {st : List Value} {Z : cz_Z} (pc : Nat) (C : jz_C X nL cc R_Wi ret rm0 (cz_G Z)) (d : decode cc pc = .ok (.getfield 15, 3)) (kk : jz_J X nL (cz_G Z) Q m lv (pc + 3) (.ref (gz_ad (cz_G Z) 5) :: st)) : jz_J X nL (cz_G Z) Q m lv pc (.ref (gz_ad (cz_G Z) 3) :: st) := jr_get pc (ref := R_Wi) C d oz_Wi rfl in_Wi (j := 1) (by decide) (List.mem_of_getElem? (i := 125) (by decide +kernel)) rfl rfl kk
theorem gf_Wi_9 {X : jz_X} {nL : Nat} {cc : ByteArray} {ret : Option FieldType} {rm0 : Room} {Q : State → Prop} {m : jz_M} {lv : List (Nat × Value)} {st : List Value} {Z : cz_Z} (pc : Nat) (C : jz_C X nL cc R_Wi ret rm0 (cz_G Z)) (d : decode cc pc = .ok (.getfield 9, 3)) (kk : jz_J X nL (cz_G Z) Q m lv (pc + 3) (.ref (gz_ad (cz_G Z) 4) :: st)) : jz_J X nL (cz_G Z) Q m lv pc (.ref (gz_ad (cz_G Z) 3) :: st) := jr_get pc (ref := R_Wi) C d oz_Wi rfl in_Wi (j := 0) (by decide) (List.mem_of_getElem? (i := 124) (by decide +kernel)) rfl rfl kk
theorem gf_AR_13 {X : jz_X} {nL : Nat} {cc : ByteArray} {ret : Option FieldType} {rm0 : Room} {Q : State → Prop} {m : jz_M} {lv : List (Nat × Value)} {st : List Value} {Z : cz_Z} (pc : Nat) (C : jz_C X nL cc R_AR ret rm0 (cz_G Z)) (d : decode cc pc = .ok (.getfield 13, 3)) (kk : jz_J X nL (cz_G Z) Q m lv (pc + 3) (.ref (gz_ad (cz_G Z) 2) :: st)) : jz_J X nL (cz_G Z) Q m lv pc (.ref (gz_ad (cz_G Z) 0) :: st) := jr_get pc (ref := R_AR) C d oz_AR rfl in_AR (j := 1) (by decide) (List.mem_of_getElem? (i := 229) (by decide +kernel)) rfl rfl kk
theorem gf_AR_19 {X : jz_X} {nL : Nat} {cc : ByteArray} {ret : Option FieldType} {rm0 : Room} {Q : State → Prop} {m : jz_M} {lv : List (Nat × Value)} {st : List Value} {Z : cz_Z} (pc : Nat) (C : jz_C X nL cc R_AR ret rm0 (cz_G Z)) (d : decode cc pc = .ok (.getfield 19, 3)) (kk : jz_J X nL (cz_G Z) Q m lv (pc + 3) (.ref (gz_ad (cz_G Z) 3) :: st)) : jz_J X nL (cz_G Z) Q m lv pc (.ref (gz_ad (cz_G Z) 0) :: st) := jr_get pc (ref := R_AR) C d oz_AR rfl in_AR (j := 2) (by decide) (List.mem_of_getElem? (i := 230) (by decide +kernel)) rfl rfl kk
theorem gf_AR_25 {X : jz_X} {nL : Nat} {cc : ByteArray} {ret : Option FieldType} {rm0 : Room} {Q : State → Prop} {m : jz_M} {lv : List (Nat × Value)} {st : List Value} {Z : cz_Z} (pc : Nat) (C : jz_C X nL cc R_AR ret rm0 (cz_G Z)) (d : decode cc pc = .ok (.getfield 25, 3)) (kk : jz_J X nL (cz_G Z) Q m lv (pc + 3) (.ref (gz_ad (cz_G Z) 6) :: st)) : jz_J X nL (cz_G Z) Q m lv pc (.ref (gz_ad (cz_G Z) 0) :: st) := jr_get pc (ref := R_AR) C d oz_AR rfl in_AR (j := 3) (by decide) (List.mem_of_getElem? (i := 231) (by decide +kernel)) rfl rfl kk
theorem gf_AR_275 {X : jz_X} {nL : Nat} {cc : ByteArray} {ret : Option FieldType} {rm0 : Room} {Q : State → Prop} {m : jz_M} {lv : List (Nat × Value)} {st : List Value} {Z : cz_Z} (pc : Nat) (C : jz_C X nL cc R_AR ret rm0 (cz_G Z)) (d : decode cc pc = .ok (.getfield 275, 3)) {o : Nat} (ko : kz_Ba o) (kk : jz_J X nL (cz_G Z) Q m lv (pc + 3) (.ref (gz_ad (cz_G Z) (o + 6)) :: st)) : jz_J X nL (cz_G Z) Q m lv pc (.ref (gz_ad (cz_G Z) o) :: st) := jr_getN pc (host := "AreaRouters") (ref := R_Ba) C d (oz_Ba ko) rfl in_Ba (j := 5) (by decide) (List.mem_of_getElem? (i := 161) (by decide +kernel)) rfl rfl kk
theorem gf_AR_279 {X : jz_X} {nL : Nat} {cc : ByteArray} {ret : Option FieldType} {rm0 : Room} {Q : State → Prop} {m : jz_M} {lv : List (Nat × Value)} {st : List Value} {Z : cz_Z} (pc : Nat) (C : jz_C X nL cc R_AR ret rm0 (cz_G Z)) (d : decode cc pc = .ok (.getfield 279, 3)) {o : Nat} (ko : kz_Ba o) (kk : jz_J X nL (cz_G Z) Q m lv (pc + 3) (.ref (gz_ad (cz_G Z) (o + 5)) :: st)) : jz_J X nL (cz_G Z) Q m lv pc (.ref (gz_ad (cz_G Z) o) :: st) := jr_getN pc (host := "AreaRouters") (ref := R_Ba) C d (oz_Ba ko) rfl in_Ba (j := 4) (by decide) (List.mem_of_getElem? (i := 159) (by decide +kernel)) rfl rfl kk
theorem gf_AR_32 {X : jz_X} {nL : Nat} {cc : ByteArray} {ret : Option FieldType} {rm0 : Room} {Q : State → Prop} {m : jz_M} {lv : List (Nat × Value)} {st : List Value} {Z : cz_Z} (pc : Nat) (C : jz_C X nL cc R_AR ret rm0 (cz_G Z)) (d : decode cc pc = .ok (.getfield 32, 3)) (kk : jz_J X nL (cz_G Z) Q m lv (pc + 3) (.ref (gz_ad (cz_G Z) 13) :: st)) : jz_J X nL (cz_G Z) Q m lv pc (.ref (gz_ad (cz_G Z) 0) :: st) := jr_get pc (ref := R_AR) C d oz_AR rfl in_AR (j := 4) (by decide) (List.mem_of_getElem? (i := 232) (by decide +kernel)) rfl rfl kk
theorem gf_AR_40 {X : jz_X} {nL : Nat} {cc : ByteArray} {ret : Option FieldType} {rm0 : Room} {Q : State → Prop} {m : jz_M} {lv : List (Nat × Value)} {st : List Value} {Z : cz_Z} (pc : Nat) (C : jz_C X nL cc R_AR ret rm0 (cz_G Z)) (d : decode cc pc = .ok (.getfield 40, 3)) (kk : jz_J X nL (cz_G Z) Q m lv (pc + 3) (.ref (gz_ad (cz_G Z) 146) :: st)) : jz_J X nL (cz_G Z) Q m lv pc (.ref (gz_ad (cz_G Z) 0) :: st) := jr_get pc (ref := R_AR) C d oz_AR rfl in_AR (j := 5) (by decide) (List.mem_of_getElem? (i := 233) (by decide +kernel)) rfl rfl kk
theorem gf_AR_47 {X : jz_X} {nL : Nat} {cc : ByteArray} {ret : Option FieldType} {rm0 : Room} {Q : State → Prop} {m : jz_M} {lv : List (Nat × Value)} {st : List Value} {Z : cz_Z} (pc : Nat) (C : jz_C X nL cc R_AR ret rm0 (cz_G Z)) (d : decode cc pc = .ok (.getfield 47, 3)) (kk : jz_J X nL (cz_G Z) Q m lv (pc + 3) (.ref (gz_ad (cz_G Z) 148) :: st)) : jz_J X nL (cz_G Z) Q m lv pc (.ref (gz_ad (cz_G Z) 0) :: st) := jr_get pc (ref := R_AR) C d oz_AR rfl in_AR (j := 6) (by decide) (List.mem_of_getElem? (i := 234) (by decide +kernel)) rfl rfl kk
theorem gf_AR_9 {X : jz_X} {nL : Nat} {cc : ByteArray} {ret : Option FieldType} {rm0 : Room} {Q : State → Prop} {m : jz_M} {lv : List (Nat × Value)} {st : List Value} {Z : cz_Z} (pc : Nat) (C : jz_C X nL cc R_AR ret rm0 (cz_G Z)) (d : decode cc pc = .ok (.getfield 9, 3)) (kk : jz_J X nL (cz_G Z) Q m lv (pc + 3) (.ref (gz_ad (cz_G Z) 1) :: st)) : jz_J X nL (cz_G Z) Q m lv pc (.ref (gz_ad (cz_G Z) 0) :: st) := jr_get pc (ref := R_AR) C d oz_AR rfl in_AR (j := 0) (by decide) (List.mem_of_getElem? (i := 228) (by decide +kernel)) rfl rfl kk
theorem mx_Ba_87 {X : jz_X} {nL : Nat} {cc : ByteArray} {ret : Option FieldType} {rm0 : Room} {Q : State → Prop} {m : jz_M} {lv : List (Nat × Value)} {st : List Value} {Z : cz_Z} (pc : Nat) {x y : Int32} (C : jz_C X nL cc R_Ba ret rm0 (cz_G Z)) (d : decode cc pc = .ok (.invokestatic 87, 3)) (hf : 1 ≤ rm0.frames) (hwt : (st.map fun v => v.category).sum + 13 ≤ rm0.locals) (k : jz_J X nL (cz_G Z) Q m lv (pc + 3) (.int (jz_max x y) :: st)) : jz_J X nL (cz_G Z) Q m lv pc (.int y :: .int x :: st) := jr_max pc C d (List.mem_of_getElem? (i := 598) (by decide +kernel)) (List.mem_of_getElem? (i := 599) (by decide +kernel)) (List.mem_of_getElem? (i := 109) (by decide +kernel)) (List.mem_of_getElem? (i := 600) (by decide +kernel)) hf hwt k
theorem pf_Dr_15 {X : jz_X} {nL : Nat} {cc : ByteArray} {ret : Option FieldType} {rm0 : Room} {Q : State → Prop} {m : jz_M} {lv : List (Nat × Value)} {st : List Value} {Z : cz_Z} (pc : Nat) {x : Int32} (C : jz_C X nL cc R_Dr ret rm0 (cz_G Z)) (d : decode cc pc = .ok (.putfield 15, 3)) (kk : jz_J X nL (cz_G Z) Q (jz_up m 146 0 x) lv (pc + 3) st) : jz_J X nL (cz_G Z) Q m lv pc (.int x :: .ref (gz_ad (cz_G Z) 146) :: st) := jr_put pc (ref := R_Dr) (ty := .int) C d oz_Dr rfl in_Dr tt_Dr tn_Dr (j := 1) (by decide) (List.mem_of_getElem? (i := 196) (by decide +kernel)) rfl rfl (by decide +kernel) rfl rfl (by show 1 < 4; decide) (by simp [fz_Dr, upd]) kk
theorem pf_Dr_19 {X : jz_X} {nL : Nat} {cc : ByteArray} {ret : Option FieldType} {rm0 : Room} {Q : State → Prop} {m : jz_M} {lv : List (Nat × Value)} {st : List Value} {Z : cz_Z} (pc : Nat) {x : Int32} (C : jz_C X nL cc R_Dr ret rm0 (cz_G Z)) (d : decode cc pc = .ok (.putfield 19, 3)) (kk : jz_J X nL (cz_G Z) Q (jz_up m 146 1 x) lv (pc + 3) st) : jz_J X nL (cz_G Z) Q m lv pc (.int x :: .ref (gz_ad (cz_G Z) 146) :: st) := jr_put pc (ref := R_Dr) (ty := .int) C d oz_Dr rfl in_Dr tt_Dr tn_Dr (j := 2) (by decide) (List.mem_of_getElem? (i := 198) (by decide +kernel)) rfl rfl (by decide +kernel) rfl rfl (by show 2 < 4; decide) (by simp [fz_Dr, upd]) kk
theorem pf_Dr_22 {X : jz_X} {nL : Nat} {cc : ByteArray} {ret : Option FieldType} {rm0 : Room} {Q : State → Prop} {m : jz_M} {lv : List (Nat × Value)} {st : List Value} {Z : cz_Z} (pc : Nat) {x : Int32} (C : jz_C X nL cc R_Dr ret rm0 (cz_G Z)) (d : decode cc pc = .ok (.putfield 22, 3)) (hb : narrow .boolean (.int x) = .int x ∧ fits .boolean (.int x) = true) (kk : jz_J X nL (cz_G Z) Q (jz_up m 146 2 x) lv (pc + 3) st) : jz_J X nL (cz_G Z) Q m lv pc (.int x :: .ref (gz_ad (cz_G Z) 146) :: st) := jr_put pc (ref := R_Dr) (ty := .boolean) C d oz_Dr rfl in_Dr tt_Dr tn_Dr (j := 3) (by decide) (List.mem_of_getElem? (i := 200) (by decide +kernel)) rfl rfl (by decide +kernel) hb.1 hb.2 (by show 3 < 4; decide) (by simp [fz_Dr, upd]) kk
theorem pf_AR_208 {X : jz_X} {nL : Nat} {cc : ByteArray} {ret : Option FieldType} {rm0 : Room} {Q : State → Prop} {m : jz_M} {lv : List (Nat × Value)} {st : List Value} {Z : cz_Z} (pc : Nat) {x : Int32} (C : jz_C X nL cc R_AR ret rm0 (cz_G Z)) (d : decode cc pc = .ok (.putfield 208, 3)) (hb : narrow .boolean (.int x) = .int x ∧ fits .boolean (.int x) = true) (kk : jz_J X nL (cz_G Z) Q (jz_up m 146 2 x) lv (pc + 3) st) : jz_J X nL (cz_G Z) Q m lv pc (.int x :: .ref (gz_ad (cz_G Z) 146) :: st) := jr_putN pc (host := "AreaRouters") (ref := R_Dr) (ty := .boolean) C d oz_Dr rfl in_Dr tt_Dr tn_Dr (j := 3) (by decide) (List.mem_of_getElem? (i := 202) (by decide +kernel)) rfl rfl (by decide +kernel) hb.1 hb.2 (by show 3 < 4; decide) (by simp [fz_Dr, upd]) kk
theorem tz_out_0_4 {x : Int32} (h0 : ¬ x = 0) (h1 : ¬ x = 1) (h2 : ¬ x = 2) (h3 : ¬ x = 3) (h4 : ¬ x = 4) : x.toInt < 0 ∨ 4 < x.toInt := by
  have k0 := lv_neT (a := 0) h0 (by decide)
  have k1 := lv_neT (a := 1) h1 (by decide)
  have k2 := lv_neT (a := 2) h2 (by decide)
  have k3 := lv_neT (a := 3) h3 (by decide)
  have k4 := lv_neT (a := 4) h4 (by decide)
  omega
end
section
abbrev rm_AR_isRouter : Room := { frames := 0, cells := 0, slots := 0, locals := 0 }
abbrev cd_AR_isRouter : Cond := .code y_AR_isRouter b_AR_isRouter 1 (some .boolean)
def f_AR_isRouter (a0 : Int32) (m : jz_M) : Option (Int32) :=
  if a0 < 0 then
    some 0
  else
    if 6 ≤ a0 then
      some 0
    else
      some 1
set_option maxHeartbeats 4000000 in
set_option maxRecDepth 100000 in
theorem c_AR_isRouter {Z : cz_Z} (l : Launch) (hI : jz_I (cz_G Z)) {a0 : Int32} {m : jz_M} {r : Int32} (h : f_AR_isRouter a0 m = some r) : jz_m l y_AR_isRouter cd_AR_isRouter rm_AR_isRouter (cz_G Z) [.int a0] m (some (.int r)) m := by
  refine jz_met (own := R_AR) (by decide) rfl hI (Nat.le_of_ble_eq_true rfl) (fun X hX C => ?_)
  subst hX
  show jz_J X 1 (cz_G Z) _ m [(0, .int a0)] 0 []
  unfold f_AR_isRouter at h
  refine jr_iload_n 0 C d_AR_isRouter_0 rfl ?_
  refine jr_if_lt 1 14 C d_AR_isRouter_1 (by decide) (fun c1_ => ?_) (fun c1_ => ?_)
  · have h := jz_t c1_ h
    refine jr_iconst 14 0 C d_AR_isRouter_14 (by decide) ?_
    obtain rfl := Option.some.inj h
    exact jr_zret 15 (v := 0) C d_AR_isRouter_15 rfl nb_0
  · have h := jz_f c1_ h
    refine jr_iload_n 4 C d_AR_isRouter_4 rfl ?_
    refine jr_bipush 5 6 C d_AR_isRouter_5 (by decide) ?_
    refine jr_icmp_ge 7 14 C d_AR_isRouter_7 (by decide) (fun c2_ => ?_) (fun c2_ => ?_)
    · have h := jz_t c2_ h
      refine jr_iconst 14 0 C d_AR_isRouter_14 (by decide) ?_
      obtain rfl := Option.some.inj h
      exact jr_zret 15 (v := 0) C d_AR_isRouter_15 rfl nb_0
    · have h := jz_f c2_ h
      refine jr_iconst 10 1 C d_AR_isRouter_10 (by decide) ?_
      refine jr_goto 11 15 C d_AR_isRouter_11 (by decide) ?_
      obtain rfl := Option.some.inj h
      exact jr_zret 15 (v := 1) C d_AR_isRouter_15 rfl nb_1
abbrev rm_Wi_isAttached : Room := { frames := 0, cells := 0, slots := 0, locals := 0 }
abbrev cd_Wi_isAttached : Cond := .code y_Wi_isAttached b_Wi_isAttached 3 (some .boolean)
def f_Wi_isAttached (a1 : Int32) (a2 : Int32) (m : jz_M) : Option (Int32) :=
  (jz_ix 36 ((a1 * 6) + a2)).bind fun j1_ =>
  if (m 4 j1_) ≤ 0 then
    some 0
  else
    some 1
set_option maxHeartbeats 4000000 in
set_option maxRecDepth 100000 in
theorem c_Wi_isAttached {Z : cz_Z} (l : Launch) (hI : jz_I (cz_G Z)) {a1 : Int32} {a2 : Int32} {m : jz_M} {r : Int32} (h : f_Wi_isAttached a1 a2 m = some r) : jz_m l y_Wi_isAttached cd_Wi_isAttached rm_Wi_isAttached (cz_G Z) [.ref (gz_ad (cz_G Z) 3), .int a1, .int a2] m (some (.int r)) m := by
  refine jz_met (own := R_Wi) (by decide) rfl hI (Nat.le_of_ble_eq_true rfl) (fun X hX C => ?_)
  subst hX
  show jz_J X 3 (cz_G Z) _ m [(0, .ref (gz_ad (cz_G Z) 3)), (1, .int a1), (2, .int a2)] 0 []
  unfold f_Wi_isAttached at h
  refine jr_aload_n 0 C d_Wi_isAttached_0 rfl ?_
  refine gf_Wi_9 1 C d_Wi_isAttached_1 ?_
  refine jr_iload_n 4 C d_Wi_isAttached_4 rfl ?_
  refine jr_bipush 5 6 C d_Wi_isAttached_5 (by decide) ?_
  refine jr_imul 7 C d_Wi_isAttached_7 ?_
  refine jr_iload_n 8 C d_Wi_isAttached_8 rfl ?_
  refine jr_iadd 9 C d_Wi_isAttached_9 ?_
  obtain ⟨j1_, ej1_, h⟩ := jz_b h
  refine jr_iald 10 C d_Wi_isAttached_10 zk_Wi_metrics ej1_ ?_
  refine jr_if_le 11 18 C d_Wi_isAttached_11 (by decide) (fun c2_ => ?_) (fun c2_ => ?_)
  · have h := jz_t c2_ h
    refine jr_iconst 18 0 C d_Wi_isAttached_18 (by decide) ?_
    obtain rfl := Option.some.inj h
    exact jr_zret 19 (v := 0) C d_Wi_isAttached_19 rfl nb_0
  · have h := jz_f c2_ h
    refine jr_iconst 14 1 C d_Wi_isAttached_14 (by decide) ?_
    refine jr_goto 15 19 C d_Wi_isAttached_15 (by decide) ?_
    obtain rfl := Option.some.inj h
    exact jr_zret 19 (v := 1) C d_Wi_isAttached_19 rfl nb_1
abbrev rm_Wi_circuitsOf : Room := { frames := 1, cells := 0, slots := 0, locals := 22 }
abbrev cd_Wi_circuitsOf : Cond := .code y_Wi_circuitsOf b_Wi_circuitsOf 4 (some .int)
def f_Wi_circuitsOf_4 (m : jz_M) : Nat → Int32 → Int32 → Int32 → Option (Int32)
  | 0, _, _, _ => none
  | fu + 1, x1, x2, x3 =>
    if 6 ≤ x3 then
      some x2
    else
      (f_Wi_isAttached x1 x3 m).bind fun v2_ =>
      if v2_ = 0 then
        jz_n (x3 + 1) fun x4_ =>
        f_Wi_circuitsOf_4 m fu x1 x2 x4_
      else
        jz_n (x2 ||| ((1 : Int32) <<< (x3 &&& 31))) fun x5_ =>
        jz_n (x3 + 1) fun x6_ =>
        f_Wi_circuitsOf_4 m fu x1 x5_ x6_
set_option maxHeartbeats 4000000 in
set_option maxRecDepth 100000 in
theorem t_Wi_circuitsOf_4 {Z : cz_Z} {X : jz_X} {m : jz_M} {r : Int32} (C : jz_C X 4 b_Wi_circuitsOf R_Wi (some .int) rm_Wi_circuitsOf (cz_G Z)) : ∀ (fu : Nat) (x1 : Int32) (x2 : Int32) (x3 : Int32) , f_Wi_circuitsOf_4 m fu x1 x2 x3 = some r → jz_J X 4 (cz_G Z) (jz_q X (cz_G Z) (some (.int r)) m) m [(0, .ref (gz_ad (cz_G Z) 3)), (1, .int x1), (2, .int x2), (3, .int x3)] 4 [] := by
  intro fu
  induction fu with
  | zero => intro x1 x2 x3 h; cases h
  | succ fu ih =>
    intro x1 x2 x3 h
    rw [f_Wi_circuitsOf_4] at h
    refine jr_iload_n 4 C d_Wi_circuitsOf_4 rfl ?_
    refine jr_bipush 5 6 C d_Wi_circuitsOf_5 (by decide) ?_
    refine jr_icmp_ge 7 31 C d_Wi_circuitsOf_7 (by decide) (fun c1_ => ?_) (fun c1_ => ?_)
    · have h := jz_t c1_ h
      refine jr_iload_n 31 C d_Wi_circuitsOf_31 rfl ?_
      obtain rfl := Option.some.inj h
      exact jr_iret 32 (v := x2) C d_Wi_circuitsOf_32 rfl
    · have h := jz_f c1_ h
      refine jr_aload_n 10 C d_Wi_circuitsOf_10 rfl ?_
      refine jr_iload_n 11 C d_Wi_circuitsOf_11 rfl ?_
      refine jr_iload_n 12 C d_Wi_circuitsOf_12 rfl ?_
      obtain ⟨v2_, ev2_, h⟩ := jz_b h
      refine jr_callV 13 [.int x1, .int x3] C d_Wi_circuitsOf_13 (c_Wi_isAttached (xz_l X) C.2.2.2.2.2.2.1  ev2_) sz_Wi_isAttached tz_Wi_isAttached lk_Wi_18 oz_Wi rfl (by decide) rfl rfl (Nat.le_of_ble_eq_true rfl) rfl ?_
      refine jr_if_eq 16 25 C d_Wi_circuitsOf_16 (by decide) (fun c3_ => ?_) (fun c3_ => ?_)
      · have h := jz_t c3_ h
        obtain ⟨x4_, ex4_, h⟩ := jz_ne h
        refine jr_iinc 25 [(0, .ref (gz_ad (cz_G Z) 3)), (1, .int x1), (2, .int x2), (3, .int x4_)] C d_Wi_circuitsOf_25 rfl (by decide) rfl (by rw [ex4_]; rfl) rfl ?_
        refine jr_goto 28 4 C d_Wi_circuitsOf_28 (by decide) ?_
        refine jr_sub [0, 1, 2, 3] rfl ?_
        exact ih x1 x2 x4_  h
      · have h := jz_f c3_ h
        refine jr_iload_n 19 C d_Wi_circuitsOf_19 rfl ?_
        refine jr_iconst 20 1 C d_Wi_circuitsOf_20 (by decide) ?_
        refine jr_iload_n 21 C d_Wi_circuitsOf_21 rfl ?_
        refine jr_ishl 22 C d_Wi_circuitsOf_22 ?_
        refine jr_ior 23 C d_Wi_circuitsOf_23 ?_
        obtain ⟨x5_, ex5_, h⟩ := jz_ne h
        refine jr_top ex5_ ?_
        refine jr_istore_n 24 [(0, .ref (gz_ad (cz_G Z) 3)), (1, .int x1), (2, .int x5_), (3, .int x3)] C d_Wi_circuitsOf_24 rfl (by decide) rfl ?_
        obtain ⟨x6_, ex6_, h⟩ := jz_ne h
        refine jr_iinc 25 [(0, .ref (gz_ad (cz_G Z) 3)), (1, .int x1), (2, .int x5_), (3, .int x6_)] C d_Wi_circuitsOf_25 rfl (by decide) rfl (by rw [ex6_]; rfl) rfl ?_
        refine jr_goto 28 4 C d_Wi_circuitsOf_28 (by decide) ?_
        refine jr_sub [0, 1, 2, 3] rfl ?_
        exact ih x1 x5_ x6_  h
def f_Wi_circuitsOf (a1 : Int32) (m : jz_M) : Option (Int32) :=
  f_Wi_circuitsOf_4 m 1000 a1 0 0
set_option maxHeartbeats 4000000 in
set_option maxRecDepth 100000 in
theorem c_Wi_circuitsOf {Z : cz_Z} (l : Launch) (hI : jz_I (cz_G Z)) {a1 : Int32} {m : jz_M} {r : Int32} (h : f_Wi_circuitsOf a1 m = some r) : jz_m l y_Wi_circuitsOf cd_Wi_circuitsOf rm_Wi_circuitsOf (cz_G Z) [.ref (gz_ad (cz_G Z) 3), .int a1] m (some (.int r)) m := by
  refine jz_met (own := R_Wi) (by decide) rfl hI (Nat.le_of_ble_eq_true rfl) (fun X hX C => ?_)
  subst hX
  show jz_J X 4 (cz_G Z) _ m [(0, .ref (gz_ad (cz_G Z) 3)), (1, .int a1)] 0 []
  unfold f_Wi_circuitsOf at h
  refine jr_iconst 0 0 C d_Wi_circuitsOf_0 (by decide) ?_
  refine jr_istore_n 1 [(0, .ref (gz_ad (cz_G Z) 3)), (1, .int a1), (2, .int 0)] C d_Wi_circuitsOf_1 rfl (by decide) rfl ?_
  refine jr_iconst 2 0 C d_Wi_circuitsOf_2 (by decide) ?_
  refine jr_istore_n 3 [(0, .ref (gz_ad (cz_G Z) 3)), (1, .int a1), (2, .int 0), (3, .int 0)] C d_Wi_circuitsOf_3 rfl (by decide) rfl ?_
  refine jr_sub [0, 1, 2, 3] rfl ?_
  exact t_Wi_circuitsOf_4 C 1000 a1 0 0 h
abbrev rm_AR_place : Room := { frames := 2, cells := 0, slots := 0, locals := 45 }
abbrev cd_AR_place : Cond := .code y_AR_place b_AR_place 4 (some .boolean)
def f_AR_place (a1 : Int32) (a2 : Int32) (a3 : Int32) (m : jz_M) : Option (Int32 × jz_M) :=
  (f_AR_isRouter a1 m).bind fun v1_ =>
  if v1_ = 0 then
    some (0, m)
  else
    if a2 < 0 then
      some (0, m)
    else
      if 3 ≤ a2 then
        some (0, m)
      else
        if a3 < 1 then
          some (0, m)
        else
          if a3 ≤ 3 then
            (f_Wi_circuitsOf a1 m).bind fun v7_ =>
            if v7_ = 0 then
              (jz_ix 6 a1).bind fun j9_ =>
              jz_n (jz_up m 1 j9_ a2) fun m10_ =>
              (jz_ix 6 a1).bind fun j11_ =>
              jz_n (jz_up m10_ 2 j11_ a3) fun m12_ =>
              some (1, m12_)
            else
              some (0, m)
          else
            some (0, m)
set_option maxHeartbeats 4000000 in
set_option maxRecDepth 100000 in
theorem c_AR_place {Z : cz_Z} (l : Launch) (hI : jz_I (cz_G Z)) {a1 : Int32} {a2 : Int32} {a3 : Int32} {m : jz_M} {r : Int32 × jz_M} (h : f_AR_place a1 a2 a3 m = some r) : jz_m l y_AR_place cd_AR_place rm_AR_place (cz_G Z) [.ref (gz_ad (cz_G Z) 0), .int a1, .int a2, .int a3] m (some (.int r.1)) r.2 := by
  refine jz_met (own := R_AR) (by decide) rfl hI (Nat.le_of_ble_eq_true rfl) (fun X hX C => ?_)
  subst hX
  show jz_J X 4 (cz_G Z) _ m [(0, .ref (gz_ad (cz_G Z) 0)), (1, .int a1), (2, .int a2), (3, .int a3)] 0 []
  unfold f_AR_place at h
  refine jr_iload_n 0 C d_AR_place_0 rfl ?_
  obtain ⟨v1_, ev1_, h⟩ := jz_b h
  refine jr_callS 1 [.int a1] C d_AR_place_1 (c_AR_isRouter (xz_l X) C.2.2.2.2.2.2.1 ev1_) sz_AR_isRouter tz_AR_isRouter lk_AR_51 (by decide) rfl rfl (Nat.le_of_ble_eq_true rfl) rfl ?_
  refine jr_if_eq 4 26 C d_AR_place_4 (by decide) (fun c2_ => ?_) (fun c2_ => ?_)
  · have h := jz_t c2_ h
    refine jr_iconst 26 0 C d_AR_place_26 (by decide) ?_
    obtain rfl := Option.some.inj h
    exact jr_zret 27 (v := 0) C d_AR_place_27 rfl nb_0
  · have h := jz_f c2_ h
    refine jr_iload_n 7 C d_AR_place_7 rfl ?_
    refine jr_if_lt 8 26 C d_AR_place_8 (by decide) (fun c3_ => ?_) (fun c3_ => ?_)
    · have h := jz_t c3_ h
      refine jr_iconst 26 0 C d_AR_place_26 (by decide) ?_
      obtain rfl := Option.some.inj h
      exact jr_zret 27 (v := 0) C d_AR_place_27 rfl nb_0
    · have h := jz_f c3_ h
      refine jr_iload_n 11 C d_AR_place_11 rfl ?_
      refine jr_iconst 12 3 C d_AR_place_12 (by decide) ?_
      refine jr_icmp_ge 13 26 C d_AR_place_13 (by decide) (fun c4_ => ?_) (fun c4_ => ?_)
      · have h := jz_t c4_ h
        refine jr_iconst 26 0 C d_AR_place_26 (by decide) ?_
        obtain rfl := Option.some.inj h
        exact jr_zret 27 (v := 0) C d_AR_place_27 rfl nb_0
      · have h := jz_f c4_ h
        refine jr_iload_n 16 C d_AR_place_16 rfl ?_
        refine jr_iconst 17 1 C d_AR_place_17 (by decide) ?_
        refine jr_icmp_lt 18 26 C d_AR_place_18 (by decide) (fun c5_ => ?_) (fun c5_ => ?_)
        · have h := jz_t c5_ h
          refine jr_iconst 26 0 C d_AR_place_26 (by decide) ?_
          obtain rfl := Option.some.inj h
          exact jr_zret 27 (v := 0) C d_AR_place_27 rfl nb_0
        · have h := jz_f c5_ h
          refine jr_iload_n 21 C d_AR_place_21 rfl ?_
          refine jr_iconst 22 3 C d_AR_place_22 (by decide) ?_
          refine jr_icmp_le 23 28 C d_AR_place_23 (by decide) (fun c6_ => ?_) (fun c6_ => ?_)
          · have h := jz_t c6_ h
            refine jr_aload_n 28 C d_AR_place_28 rfl ?_
            refine gf_AR_19 29 C d_AR_place_29 ?_
            refine jr_iload_n 32 C d_AR_place_32 rfl ?_
            obtain ⟨v7_, ev7_, h⟩ := jz_b h
            refine jr_callVN 33 [.int a1] C d_AR_place_33 (c_Wi_circuitsOf (xz_l X) C.2.2.2.2.2.2.1  ev7_) sz_Wi_circuitsOf tz_Wi_circuitsOf lk_AR_55 oz_Wi rfl (by decide) rfl rfl (Nat.le_of_ble_eq_true rfl) rfl ?_
            refine jr_if_eq 36 41 C d_AR_place_36 (by decide) (fun c8_ => ?_) (fun c8_ => ?_)
            · have h := jz_t c8_ h
              refine jr_aload_n 41 C d_AR_place_41 rfl ?_
              refine gf_AR_9 42 C d_AR_place_42 ?_
              refine jr_iload_n 45 C d_AR_place_45 rfl ?_
              refine jr_iload_n 46 C d_AR_place_46 rfl ?_
              obtain ⟨j9_, ej9_, h⟩ := jz_b h
              obtain ⟨m10_, em10_, h⟩ := jz_ne h
              refine jr_iast 47 C d_AR_place_47 zk_AR_areas ej9_ ?_
              refine jr_mem em10_ ?_
              refine jr_aload_n 48 C d_AR_place_48 rfl ?_
              refine gf_AR_13 49 C d_AR_place_49 ?_
              refine jr_iload_n 52 C d_AR_place_52 rfl ?_
              refine jr_iload_n 53 C d_AR_place_53 rfl ?_
              obtain ⟨j11_, ej11_, h⟩ := jz_b h
              obtain ⟨m12_, em12_, h⟩ := jz_ne h
              refine jr_iast 54 C d_AR_place_54 zk_AR_levelSets ej11_ ?_
              refine jr_mem em12_ ?_
              refine jr_iconst 55 1 C d_AR_place_55 (by decide) ?_
              obtain rfl := Option.some.inj h
              exact jr_zret 56 (v := 1) C d_AR_place_56 rfl nb_1
            · have h := jz_f c8_ h
              refine jr_iconst 39 0 C d_AR_place_39 (by decide) ?_
              obtain rfl := Option.some.inj h
              exact jr_zret 40 (v := 0) C d_AR_place_40 rfl nb_0
          · have h := jz_f c6_ h
            refine jr_iconst 26 0 C d_AR_place_26 (by decide) ?_
            obtain rfl := Option.some.inj h
            exact jr_zret 27 (v := 0) C d_AR_place_27 rfl nb_0
abbrev rm_AR_isCircuit : Room := { frames := 0, cells := 0, slots := 0, locals := 0 }
abbrev cd_AR_isCircuit : Cond := .code y_AR_isCircuit b_AR_isCircuit 1 (some .boolean)
def f_AR_isCircuit (a0 : Int32) (m : jz_M) : Option (Int32) :=
  if a0 < 0 then
    some 0
  else
    if 6 ≤ a0 then
      some 0
    else
      some 1
set_option maxHeartbeats 4000000 in
set_option maxRecDepth 100000 in
theorem c_AR_isCircuit {Z : cz_Z} (l : Launch) (hI : jz_I (cz_G Z)) {a0 : Int32} {m : jz_M} {r : Int32} (h : f_AR_isCircuit a0 m = some r) : jz_m l y_AR_isCircuit cd_AR_isCircuit rm_AR_isCircuit (cz_G Z) [.int a0] m (some (.int r)) m := by
  refine jz_met (own := R_AR) (by decide) rfl hI (Nat.le_of_ble_eq_true rfl) (fun X hX C => ?_)
  subst hX
  show jz_J X 1 (cz_G Z) _ m [(0, .int a0)] 0 []
  unfold f_AR_isCircuit at h
  refine jr_iload_n 0 C d_AR_isCircuit_0 rfl ?_
  refine jr_if_lt 1 14 C d_AR_isCircuit_1 (by decide) (fun c1_ => ?_) (fun c1_ => ?_)
  · have h := jz_t c1_ h
    refine jr_iconst 14 0 C d_AR_isCircuit_14 (by decide) ?_
    obtain rfl := Option.some.inj h
    exact jr_zret 15 (v := 0) C d_AR_isCircuit_15 rfl nb_0
  · have h := jz_f c1_ h
    refine jr_iload_n 4 C d_AR_isCircuit_4 rfl ?_
    refine jr_bipush 5 6 C d_AR_isCircuit_5 (by decide) ?_
    refine jr_icmp_ge 7 14 C d_AR_isCircuit_7 (by decide) (fun c2_ => ?_) (fun c2_ => ?_)
    · have h := jz_t c2_ h
      refine jr_iconst 14 0 C d_AR_isCircuit_14 (by decide) ?_
      obtain rfl := Option.some.inj h
      exact jr_zret 15 (v := 0) C d_AR_isCircuit_15 rfl nb_0
    · have h := jz_f c2_ h
      refine jr_iconst 10 1 C d_AR_isCircuit_10 (by decide) ?_
      refine jr_goto 11 15 C d_AR_isCircuit_11 (by decide) ?_
      obtain rfl := Option.some.inj h
      exact jr_zret 15 (v := 1) C d_AR_isCircuit_15 rfl nb_1
abbrev rm_Wi_countOn : Room := { frames := 1, cells := 0, slots := 0, locals := 22 }
abbrev cd_Wi_countOn : Cond := .code y_Wi_countOn b_Wi_countOn 4 (some .int)
def f_Wi_countOn_4 (m : jz_M) : Nat → Int32 → Int32 → Int32 → Option (Int32)
  | 0, _, _, _ => none
  | fu + 1, x1, x2, x3 =>
    if 6 ≤ x3 then
      some x2
    else
      (f_Wi_isAttached x3 x1 m).bind fun v2_ =>
      if v2_ = 0 then
        jz_n (x3 + 1) fun x4_ =>
        f_Wi_countOn_4 m fu x1 x2 x4_
      else
        jz_n (x2 + 1) fun x5_ =>
        jz_n (x3 + 1) fun x6_ =>
        f_Wi_countOn_4 m fu x1 x5_ x6_
set_option maxHeartbeats 4000000 in
set_option maxRecDepth 100000 in
theorem t_Wi_countOn_4 {Z : cz_Z} {X : jz_X} {m : jz_M} {r : Int32} (C : jz_C X 4 b_Wi_countOn R_Wi (some .int) rm_Wi_countOn (cz_G Z)) : ∀ (fu : Nat) (x1 : Int32) (x2 : Int32) (x3 : Int32) , f_Wi_countOn_4 m fu x1 x2 x3 = some r → jz_J X 4 (cz_G Z) (jz_q X (cz_G Z) (some (.int r)) m) m [(0, .ref (gz_ad (cz_G Z) 3)), (1, .int x1), (2, .int x2), (3, .int x3)] 4 [] := by
  intro fu
  induction fu with
  | zero => intro x1 x2 x3 h; cases h
  | succ fu ih =>
    intro x1 x2 x3 h
    rw [f_Wi_countOn_4] at h
    refine jr_iload_n 4 C d_Wi_countOn_4 rfl ?_
    refine jr_bipush 5 6 C d_Wi_countOn_5 (by decide) ?_
    refine jr_icmp_ge 7 28 C d_Wi_countOn_7 (by decide) (fun c1_ => ?_) (fun c1_ => ?_)
    · have h := jz_t c1_ h
      refine jr_iload_n 28 C d_Wi_countOn_28 rfl ?_
      obtain rfl := Option.some.inj h
      exact jr_iret 29 (v := x2) C d_Wi_countOn_29 rfl
    · have h := jz_f c1_ h
      refine jr_aload_n 10 C d_Wi_countOn_10 rfl ?_
      refine jr_iload_n 11 C d_Wi_countOn_11 rfl ?_
      refine jr_iload_n 12 C d_Wi_countOn_12 rfl ?_
      obtain ⟨v2_, ev2_, h⟩ := jz_b h
      refine jr_callV 13 [.int x3, .int x1] C d_Wi_countOn_13 (c_Wi_isAttached (xz_l X) C.2.2.2.2.2.2.1  ev2_) sz_Wi_isAttached tz_Wi_isAttached lk_Wi_18 oz_Wi rfl (by decide) rfl rfl (Nat.le_of_ble_eq_true rfl) rfl ?_
      refine jr_if_eq 16 22 C d_Wi_countOn_16 (by decide) (fun c3_ => ?_) (fun c3_ => ?_)
      · have h := jz_t c3_ h
        obtain ⟨x4_, ex4_, h⟩ := jz_ne h
        refine jr_iinc 22 [(0, .ref (gz_ad (cz_G Z) 3)), (1, .int x1), (2, .int x2), (3, .int x4_)] C d_Wi_countOn_22 rfl (by decide) rfl (by rw [ex4_]; rfl) rfl ?_
        refine jr_goto 25 4 C d_Wi_countOn_25 (by decide) ?_
        refine jr_sub [0, 1, 2, 3] rfl ?_
        exact ih x1 x2 x4_  h
      · have h := jz_f c3_ h
        obtain ⟨x5_, ex5_, h⟩ := jz_ne h
        refine jr_iinc 19 [(0, .ref (gz_ad (cz_G Z) 3)), (1, .int x1), (2, .int x5_), (3, .int x3)] C d_Wi_countOn_19 rfl (by decide) rfl (by rw [ex5_]; rfl) rfl ?_
        obtain ⟨x6_, ex6_, h⟩ := jz_ne h
        refine jr_iinc 22 [(0, .ref (gz_ad (cz_G Z) 3)), (1, .int x1), (2, .int x5_), (3, .int x6_)] C d_Wi_countOn_22 rfl (by decide) rfl (by rw [ex6_]; rfl) rfl ?_
        refine jr_goto 25 4 C d_Wi_countOn_25 (by decide) ?_
        refine jr_sub [0, 1, 2, 3] rfl ?_
        exact ih x1 x5_ x6_  h
def f_Wi_countOn (a1 : Int32) (m : jz_M) : Option (Int32) :=
  f_Wi_countOn_4 m 1000 a1 0 0
set_option maxHeartbeats 4000000 in
set_option maxRecDepth 100000 in
theorem c_Wi_countOn {Z : cz_Z} (l : Launch) (hI : jz_I (cz_G Z)) {a1 : Int32} {m : jz_M} {r : Int32} (h : f_Wi_countOn a1 m = some r) : jz_m l y_Wi_countOn cd_Wi_countOn rm_Wi_countOn (cz_G Z) [.ref (gz_ad (cz_G Z) 3), .int a1] m (some (.int r)) m := by
  refine jz_met (own := R_Wi) (by decide) rfl hI (Nat.le_of_ble_eq_true rfl) (fun X hX C => ?_)
  subst hX
  show jz_J X 4 (cz_G Z) _ m [(0, .ref (gz_ad (cz_G Z) 3)), (1, .int a1)] 0 []
  unfold f_Wi_countOn at h
  refine jr_iconst 0 0 C d_Wi_countOn_0 (by decide) ?_
  refine jr_istore_n 1 [(0, .ref (gz_ad (cz_G Z) 3)), (1, .int a1), (2, .int 0)] C d_Wi_countOn_1 rfl (by decide) rfl ?_
  refine jr_iconst 2 0 C d_Wi_countOn_2 (by decide) ?_
  refine jr_istore_n 3 [(0, .ref (gz_ad (cz_G Z) 3)), (1, .int a1), (2, .int 0), (3, .int 0)] C d_Wi_countOn_3 rfl (by decide) rfl ?_
  refine jr_sub [0, 1, 2, 3] rfl ?_
  exact t_Wi_countOn_4 C 1000 a1 0 0 h
abbrev rm_Wi_join : Room := { frames := 0, cells := 0, slots := 0, locals := 0 }
abbrev cd_Wi_join : Cond := .code y_Wi_join b_Wi_join 5 none
def f_Wi_join (a1 : Int32) (a2 : Int32) (a3 : Int32) (a4 : Int32) (m : jz_M) : Option (jz_M) :=
  (jz_ix 36 ((a1 * 6) + a2)).bind fun j1_ =>
  jz_n (jz_up m 4 j1_ a3) fun m2_ =>
  (jz_ix 36 ((a1 * 6) + a2)).bind fun j3_ =>
  jz_n (jz_up m2_ 5 j3_ a4) fun m4_ =>
  some m4_
set_option maxHeartbeats 4000000 in
set_option maxRecDepth 100000 in
theorem c_Wi_join {Z : cz_Z} (l : Launch) (hI : jz_I (cz_G Z)) {a1 : Int32} {a2 : Int32} {a3 : Int32} {a4 : Int32} {m : jz_M} {r : jz_M} (h : f_Wi_join a1 a2 a3 a4 m = some r) : jz_m l y_Wi_join cd_Wi_join rm_Wi_join (cz_G Z) [.ref (gz_ad (cz_G Z) 3), .int a1, .int a2, .int a3, .int a4] m none r := by
  refine jz_met (own := R_Wi) (by decide) rfl hI (Nat.le_of_ble_eq_true rfl) (fun X hX C => ?_)
  subst hX
  show jz_J X 5 (cz_G Z) _ m [(0, .ref (gz_ad (cz_G Z) 3)), (1, .int a1), (2, .int a2), (3, .int a3), (4, .int a4)] 0 []
  unfold f_Wi_join at h
  refine jr_aload_n 0 C d_Wi_join_0 rfl ?_
  refine gf_Wi_9 1 C d_Wi_join_1 ?_
  refine jr_iload_n 4 C d_Wi_join_4 rfl ?_
  refine jr_bipush 5 6 C d_Wi_join_5 (by decide) ?_
  refine jr_imul 7 C d_Wi_join_7 ?_
  refine jr_iload_n 8 C d_Wi_join_8 rfl ?_
  refine jr_iadd 9 C d_Wi_join_9 ?_
  refine jr_iload_n 10 C d_Wi_join_10 rfl ?_
  obtain ⟨j1_, ej1_, h⟩ := jz_b h
  obtain ⟨m2_, em2_, h⟩ := jz_ne h
  refine jr_iast 11 C d_Wi_join_11 zk_Wi_metrics ej1_ ?_
  refine jr_mem em2_ ?_
  refine jr_aload_n 12 C d_Wi_join_12 rfl ?_
  refine gf_Wi_15 13 C d_Wi_join_13 ?_
  refine jr_iload_n 16 C d_Wi_join_16 rfl ?_
  refine jr_bipush 17 6 C d_Wi_join_17 (by decide) ?_
  refine jr_imul 19 C d_Wi_join_19 ?_
  refine jr_iload_n 20 C d_Wi_join_20 rfl ?_
  refine jr_iadd 21 C d_Wi_join_21 ?_
  refine jr_iload 22 C d_Wi_join_22 rfl ?_
  obtain ⟨j3_, ej3_, h⟩ := jz_b h
  obtain ⟨m4_, em4_, h⟩ := jz_ne h
  refine jr_iast 24 C d_Wi_join_24 zk_Wi_priorities ej3_ ?_
  refine jr_mem em4_ ?_
  obtain rfl := Option.some.inj h
  exact jr_vret 25 C d_Wi_join_25 rfl
abbrev rm_AR_attach : Room := { frames := 2, cells := 0, slots := 0, locals := 45 }
abbrev cd_AR_attach : Cond := .code y_AR_attach b_AR_attach 5 (some .boolean)
def f_AR_attach_67 (x1 : Int32) (x2 : Int32) (x3 : Int32) (x4 : Int32) (m : jz_M) : Option (Int32 × jz_M) :=
  (f_Wi_join x1 x2 x3 x4 m).bind fun v1_ =>
  some (1, v1_)
set_option maxHeartbeats 4000000 in
set_option maxRecDepth 100000 in
theorem t_AR_attach_67 {Z : cz_Z} {X : jz_X} {r : Int32 × jz_M} (C : jz_C X 5 b_AR_attach R_AR (some .boolean) rm_AR_attach (cz_G Z)) : ∀ (x1 : Int32) (x2 : Int32) (x3 : Int32) (x4 : Int32) (m : jz_M) , f_AR_attach_67 x1 x2 x3 x4 m = some r → jz_J X 5 (cz_G Z) (jz_q X (cz_G Z) (some (.int r.1)) r.2) m [(0, .ref (gz_ad (cz_G Z) 0)), (1, .int x1), (2, .int x2), (3, .int x3), (4, .int x4)] 67 [] := by
  intro x1 x2 x3 x4 m h
  unfold f_AR_attach_67 at h
  refine jr_aload_n 67 C d_AR_attach_67 rfl ?_
  refine gf_AR_19 68 C d_AR_attach_68 ?_
  refine jr_iload_n 71 C d_AR_attach_71 rfl ?_
  refine jr_iload_n 72 C d_AR_attach_72 rfl ?_
  refine jr_iload_n 73 C d_AR_attach_73 rfl ?_
  refine jr_iload 74 C d_AR_attach_74 rfl ?_
  obtain ⟨v1_, ev1_, h⟩ := jz_b h
  refine jr_callVN 76 [.int x1, .int x2, .int x3, .int x4] C d_AR_attach_76 (c_Wi_join (xz_l X) C.2.2.2.2.2.2.1 ev1_) sz_Wi_join tz_Wi_join lk_AR_69 oz_Wi rfl (by decide) rfl rfl (Nat.le_of_ble_eq_true rfl) rfl ?_
  refine jr_iconst 79 1 C d_AR_attach_79 (by decide) ?_
  obtain rfl := Option.some.inj h
  exact jr_zret 80 (v := 1) C d_AR_attach_80 rfl nb_1
def f_AR_attach (a1 : Int32) (a2 : Int32) (a3 : Int32) (a4 : Int32) (m : jz_M) : Option (Int32 × jz_M) :=
  (f_AR_isRouter a1 m).bind fun v1_ =>
  if v1_ = 0 then
    some (0, m)
  else
    (f_AR_isCircuit a2 m).bind fun v3_ =>
    if ¬ v3_ = 0 then
      if a3 < 1 then
        some (0, m)
      else
        if 60 < a3 then
          some (0, m)
        else
          if a4 < 0 then
            some (0, m)
          else
            if a4 ≤ 100 then
              (f_Wi_isAttached a1 a2 m).bind fun v9_ =>
              if ¬ v9_ = 0 then
                f_AR_attach_67 a1 a2 a3 a4 m
              else
                (f_Wi_countOn a2 m).bind fun v11_ =>
                if v11_ < 4 then
                  f_AR_attach_67 a1 a2 a3 a4 m
                else
                  some (0, m)
            else
              some (0, m)
    else
      some (0, m)
set_option maxHeartbeats 4000000 in
set_option maxRecDepth 100000 in
theorem c_AR_attach {Z : cz_Z} (l : Launch) (hI : jz_I (cz_G Z)) {a1 : Int32} {a2 : Int32} {a3 : Int32} {a4 : Int32} {m : jz_M} {r : Int32 × jz_M} (h : f_AR_attach a1 a2 a3 a4 m = some r) : jz_m l y_AR_attach cd_AR_attach rm_AR_attach (cz_G Z) [.ref (gz_ad (cz_G Z) 0), .int a1, .int a2, .int a3, .int a4] m (some (.int r.1)) r.2 := by
  refine jz_met (own := R_AR) (by decide) rfl hI (Nat.le_of_ble_eq_true rfl) (fun X hX C => ?_)
  subst hX
  show jz_J X 5 (cz_G Z) _ m [(0, .ref (gz_ad (cz_G Z) 0)), (1, .int a1), (2, .int a2), (3, .int a3), (4, .int a4)] 0 []
  unfold f_AR_attach at h
  refine jr_iload_n 0 C d_AR_attach_0 rfl ?_
  obtain ⟨v1_, ev1_, h⟩ := jz_b h
  refine jr_callS 1 [.int a1] C d_AR_attach_1 (c_AR_isRouter (xz_l X) C.2.2.2.2.2.2.1 ev1_) sz_AR_isRouter tz_AR_isRouter lk_AR_51 (by decide) rfl rfl (Nat.le_of_ble_eq_true rfl) rfl ?_
  refine jr_if_eq 4 14 C d_AR_attach_4 (by decide) (fun c2_ => ?_) (fun c2_ => ?_)
  · have h := jz_t c2_ h
    refine jr_iconst 14 0 C d_AR_attach_14 (by decide) ?_
    obtain rfl := Option.some.inj h
    exact jr_zret 15 (v := 0) C d_AR_attach_15 rfl nb_0
  · have h := jz_f c2_ h
    refine jr_iload_n 7 C d_AR_attach_7 rfl ?_
    obtain ⟨v3_, ev3_, h⟩ := jz_b h
    refine jr_callS 8 [.int a2] C d_AR_attach_8 (c_AR_isCircuit (xz_l X) C.2.2.2.2.2.2.1  ev3_) sz_AR_isCircuit tz_AR_isCircuit lk_AR_59 (by decide) rfl rfl (Nat.le_of_ble_eq_true rfl) rfl ?_
    refine jr_if_ne 11 16 C d_AR_attach_11 (by decide) (fun c4_ => ?_) (fun c4_ => ?_)
    · have h := jz_t c4_ h
      refine jr_iload_n 16 C d_AR_attach_16 rfl ?_
      refine jr_iconst 17 1 C d_AR_attach_17 (by decide) ?_
      refine jr_icmp_lt 18 39 C d_AR_attach_18 (by decide) (fun c5_ => ?_) (fun c5_ => ?_)
      · have h := jz_t c5_ h
        refine jr_iconst 39 0 C d_AR_attach_39 (by decide) ?_
        obtain rfl := Option.some.inj h
        exact jr_zret 40 (v := 0) C d_AR_attach_40 rfl nb_0
      · have h := jz_f c5_ h
        refine jr_iload_n 21 C d_AR_attach_21 rfl ?_
        refine jr_bipush 22 60 C d_AR_attach_22 (by decide) ?_
        refine jr_icmp_gt 24 39 C d_AR_attach_24 (by decide) (fun c6_ => ?_) (fun c6_ => ?_)
        · have h := jz_t c6_ h
          refine jr_iconst 39 0 C d_AR_attach_39 (by decide) ?_
          obtain rfl := Option.some.inj h
          exact jr_zret 40 (v := 0) C d_AR_attach_40 rfl nb_0
        · have h := jz_f c6_ h
          refine jr_iload 27 C d_AR_attach_27 rfl ?_
          refine jr_if_lt 29 39 C d_AR_attach_29 (by decide) (fun c7_ => ?_) (fun c7_ => ?_)
          · have h := jz_t c7_ h
            refine jr_iconst 39 0 C d_AR_attach_39 (by decide) ?_
            obtain rfl := Option.some.inj h
            exact jr_zret 40 (v := 0) C d_AR_attach_40 rfl nb_0
          · have h := jz_f c7_ h
            refine jr_iload 32 C d_AR_attach_32 rfl ?_
            refine jr_bipush 34 100 C d_AR_attach_34 (by decide) ?_
            refine jr_icmp_le 36 41 C d_AR_attach_36 (by decide) (fun c8_ => ?_) (fun c8_ => ?_)
            · have h := jz_t c8_ h
              refine jr_aload_n 41 C d_AR_attach_41 rfl ?_
              refine gf_AR_19 42 C d_AR_attach_42 ?_
              refine jr_iload_n 45 C d_AR_attach_45 rfl ?_
              refine jr_iload_n 46 C d_AR_attach_46 rfl ?_
              obtain ⟨v9_, ev9_, h⟩ := jz_b h
              refine jr_callVN 47 [.int a1, .int a2] C d_AR_attach_47 (c_Wi_isAttached (xz_l X) C.2.2.2.2.2.2.1  ev9_) sz_Wi_isAttached tz_Wi_isAttached lk_AR_62 oz_Wi rfl (by decide) rfl rfl (Nat.le_of_ble_eq_true rfl) rfl ?_
              refine jr_if_ne 50 67 C d_AR_attach_50 (by decide) (fun c10_ => ?_) (fun c10_ => ?_)
              · have h := jz_t c10_ h
                refine jr_sub [0, 1, 2, 3, 4] rfl ?_
                exact t_AR_attach_67 C  a1 a2 a3 a4 m h
              · have h := jz_f c10_ h
                refine jr_aload_n 53 C d_AR_attach_53 rfl ?_
                refine gf_AR_19 54 C d_AR_attach_54 ?_
                refine jr_iload_n 57 C d_AR_attach_57 rfl ?_
                obtain ⟨v11_, ev11_, h⟩ := jz_b h
                refine jr_callVN 58 [.int a2] C d_AR_attach_58 (c_Wi_countOn (xz_l X) C.2.2.2.2.2.2.1  ev11_) sz_Wi_countOn tz_Wi_countOn lk_AR_66 oz_Wi rfl (by decide) rfl rfl (Nat.le_of_ble_eq_true rfl) rfl ?_
                refine jr_iconst 61 4 C d_AR_attach_61 (by decide) ?_
                refine jr_icmp_lt 62 67 C d_AR_attach_62 (by decide) (fun c12_ => ?_) (fun c12_ => ?_)
                · have h := jz_t c12_ h
                  refine jr_sub [0, 1, 2, 3, 4] rfl ?_
                  exact t_AR_attach_67 C  a1 a2 a3 a4 m h
                · have h := jz_f c12_ h
                  refine jr_iconst 65 0 C d_AR_attach_65 (by decide) ?_
                  obtain rfl := Option.some.inj h
                  exact jr_zret 66 (v := 0) C d_AR_attach_66 rfl nb_0
            · have h := jz_f c8_ h
              refine jr_iconst 39 0 C d_AR_attach_39 (by decide) ?_
              obtain rfl := Option.some.inj h
              exact jr_zret 40 (v := 0) C d_AR_attach_40 rfl nb_0
    · have h := jz_f c4_ h
      refine jr_iconst 14 0 C d_AR_attach_14 (by decide) ?_
      obtain rfl := Option.some.inj h
      exact jr_zret 15 (v := 0) C d_AR_attach_15 rfl nb_0
abbrev rm_AR_checkSender : Room := { frames := 1, cells := 0, slots := 0, locals := 22 }
abbrev cd_AR_checkSender : Cond := .code y_AR_checkSender b_AR_checkSender 3 none
def f_AR_checkSender_14 (m : jz_M) : Option (Unit) :=
  none
set_option maxHeartbeats 4000000 in
set_option maxRecDepth 100000 in
theorem t_AR_checkSender_14 {Z : cz_Z} {X : jz_X} {m : jz_M} {r : Unit} (C : jz_C X 3 b_AR_checkSender R_AR none rm_AR_checkSender (cz_G Z)) : f_AR_checkSender_14 m = some r → jz_J X 3 (cz_G Z) (jz_q X (cz_G Z) none m) m [] 14 [] := by
  intro h
  unfold f_AR_checkSender_14 at h
  cases h
def f_AR_checkSender (a1 : Int32) (a2 : Int32) (m : jz_M) : Option (Unit) :=
  (f_AR_isRouter a1 m).bind fun v1_ =>
  if v1_ = 0 then
    f_AR_checkSender_14 m
  else
    (f_AR_isCircuit a2 m).bind fun v3_ =>
    if ¬ v3_ = 0 then
      (f_Wi_isAttached a1 a2 m).bind fun v5_ =>
      if ¬ v5_ = 0 then
        some ()
      else
        none
    else
      f_AR_checkSender_14 m
set_option maxHeartbeats 4000000 in
set_option maxRecDepth 100000 in
theorem c_AR_checkSender {Z : cz_Z} (l : Launch) (hI : jz_I (cz_G Z)) {a1 : Int32} {a2 : Int32} {m : jz_M} {r : Unit} (h : f_AR_checkSender a1 a2 m = some r) : jz_m l y_AR_checkSender cd_AR_checkSender rm_AR_checkSender (cz_G Z) [.ref (gz_ad (cz_G Z) 0), .int a1, .int a2] m none m := by
  refine jz_met (own := R_AR) (by decide) rfl hI (Nat.le_of_ble_eq_true rfl) (fun X hX C => ?_)
  subst hX
  show jz_J X 3 (cz_G Z) _ m [(0, .ref (gz_ad (cz_G Z) 0)), (1, .int a1), (2, .int a2)] 0 []
  unfold f_AR_checkSender at h
  refine jr_iload_n 0 C d_AR_checkSender_0 rfl ?_
  obtain ⟨v1_, ev1_, h⟩ := jz_b h
  refine jr_callS 1 [.int a1] C d_AR_checkSender_1 (c_AR_isRouter (xz_l X) C.2.2.2.2.2.2.1 ev1_) sz_AR_isRouter tz_AR_isRouter lk_AR_51 (by decide) rfl rfl (Nat.le_of_ble_eq_true rfl) rfl ?_
  refine jr_if_eq 4 14 C d_AR_checkSender_4 (by decide) (fun c2_ => ?_) (fun c2_ => ?_)
  · have h := jz_t c2_ h
    refine jr_sub [] rfl ?_
    exact t_AR_checkSender_14 C   h
  · have h := jz_f c2_ h
    refine jr_iload_n 7 C d_AR_checkSender_7 rfl ?_
    obtain ⟨v3_, ev3_, h⟩ := jz_b h
    refine jr_callS 8 [.int a2] C d_AR_checkSender_8 (c_AR_isCircuit (xz_l X) C.2.2.2.2.2.2.1  ev3_) sz_AR_isCircuit tz_AR_isCircuit lk_AR_59 (by decide) rfl rfl (Nat.le_of_ble_eq_true rfl) rfl ?_
    refine jr_if_ne 11 24 C d_AR_checkSender_11 (by decide) (fun c4_ => ?_) (fun c4_ => ?_)
    · have h := jz_t c4_ h
      refine jr_aload_n 24 C d_AR_checkSender_24 rfl ?_
      refine gf_AR_19 25 C d_AR_checkSender_25 ?_
      refine jr_iload_n 28 C d_AR_checkSender_28 rfl ?_
      refine jr_iload_n 29 C d_AR_checkSender_29 rfl ?_
      obtain ⟨v5_, ev5_, h⟩ := jz_b h
      refine jr_callVN 30 [.int a1, .int a2] C d_AR_checkSender_30 (c_Wi_isAttached (xz_l X) C.2.2.2.2.2.2.1  ev5_) sz_Wi_isAttached tz_Wi_isAttached lk_AR_62 oz_Wi rfl (by decide) rfl rfl (Nat.le_of_ble_eq_true rfl) rfl ?_
      refine jr_if_ne 33 46 C d_AR_checkSender_33 (by decide) (fun c6_ => ?_) (fun c6_ => ?_)
      · have h := jz_t c6_ h
        clear h
        exact jr_vret 46 C d_AR_checkSender_46 rfl
      · have h := jz_f c6_ h
        cases h
    · have h := jz_f c4_ h
      refine jr_sub [] rfl ?_
      exact t_AR_checkSender_14 C   h
abbrev rm_AR_isMeant : Room := { frames := 0, cells := 0, slots := 0, locals := 0 }
abbrev cd_AR_isMeant : Cond := .code y_AR_isMeant b_AR_isMeant 2 (some .boolean)
def f_AR_isMeant (a0 : Int32) (a1 : Int32) (m : jz_M) : Option (Int32) :=
  if ((a1 >>> (a0 &&& 31)) &&& 1) = 0 then
    some 0
  else
    some 1
set_option maxHeartbeats 4000000 in
set_option maxRecDepth 100000 in
theorem c_AR_isMeant {Z : cz_Z} (l : Launch) (hI : jz_I (cz_G Z)) {a0 : Int32} {a1 : Int32} {m : jz_M} {r : Int32} (h : f_AR_isMeant a0 a1 m = some r) : jz_m l y_AR_isMeant cd_AR_isMeant rm_AR_isMeant (cz_G Z) [.int a0, .int a1] m (some (.int r)) m := by
  refine jz_met (own := R_AR) (by decide) rfl hI (Nat.le_of_ble_eq_true rfl) (fun X hX C => ?_)
  subst hX
  show jz_J X 2 (cz_G Z) _ m [(0, .int a0), (1, .int a1)] 0 []
  unfold f_AR_isMeant at h
  refine jr_iload_n 0 C d_AR_isMeant_0 rfl ?_
  refine jr_iload_n 1 C d_AR_isMeant_1 rfl ?_
  refine jr_ishr 2 C d_AR_isMeant_2 ?_
  refine jr_iconst 3 1 C d_AR_isMeant_3 (by decide) ?_
  refine jr_iand 4 C d_AR_isMeant_4 ?_
  refine jr_if_eq 5 12 C d_AR_isMeant_5 (by decide) (fun c1_ => ?_) (fun c1_ => ?_)
  · have h := jz_t c1_ h
    refine jr_iconst 12 0 C d_AR_isMeant_12 (by decide) ?_
    obtain rfl := Option.some.inj h
    exact jr_zret 13 (v := 0) C d_AR_isMeant_13 rfl nb_0
  · have h := jz_f c1_ h
    refine jr_iconst 8 1 C d_AR_isMeant_8 (by decide) ?_
    refine jr_goto 9 13 C d_AR_isMeant_9 (by decide) ?_
    obtain rfl := Option.some.inj h
    exact jr_zret 13 (v := 1) C d_AR_isMeant_13 rfl nb_1
abbrev rm_AR_isLevel : Room := { frames := 0, cells := 0, slots := 0, locals := 0 }
abbrev cd_AR_isLevel : Cond := .code y_AR_isLevel b_AR_isLevel 1 (some .boolean)
def f_AR_isLevel (a0 : Int32) (m : jz_M) : Option (Int32) :=
  if a0 < 1 then
    some 0
  else
    if 2 < a0 then
      some 0
    else
      some 1
set_option maxHeartbeats 4000000 in
set_option maxRecDepth 100000 in
theorem c_AR_isLevel {Z : cz_Z} (l : Launch) (hI : jz_I (cz_G Z)) {a0 : Int32} {m : jz_M} {r : Int32} (h : f_AR_isLevel a0 m = some r) : jz_m l y_AR_isLevel cd_AR_isLevel rm_AR_isLevel (cz_G Z) [.int a0] m (some (.int r)) m := by
  refine jz_met (own := R_AR) (by decide) rfl hI (Nat.le_of_ble_eq_true rfl) (fun X hX C => ?_)
  subst hX
  show jz_J X 1 (cz_G Z) _ m [(0, .int a0)] 0 []
  unfold f_AR_isLevel at h
  refine jr_iload_n 0 C d_AR_isLevel_0 rfl ?_
  refine jr_iconst 1 1 C d_AR_isLevel_1 (by decide) ?_
  refine jr_icmp_lt 2 14 C d_AR_isLevel_2 (by decide) (fun c1_ => ?_) (fun c1_ => ?_)
  · have h := jz_t c1_ h
    refine jr_iconst 14 0 C d_AR_isLevel_14 (by decide) ?_
    obtain rfl := Option.some.inj h
    exact jr_zret 15 (v := 0) C d_AR_isLevel_15 rfl nb_0
  · have h := jz_f c1_ h
    refine jr_iload_n 5 C d_AR_isLevel_5 rfl ?_
    refine jr_iconst 6 2 C d_AR_isLevel_6 (by decide) ?_
    refine jr_icmp_gt 7 14 C d_AR_isLevel_7 (by decide) (fun c2_ => ?_) (fun c2_ => ?_)
    · have h := jz_t c2_ h
      refine jr_iconst 14 0 C d_AR_isLevel_14 (by decide) ?_
      obtain rfl := Option.some.inj h
      exact jr_zret 15 (v := 0) C d_AR_isLevel_15 rfl nb_0
    · have h := jz_f c2_ h
      refine jr_iconst 10 1 C d_AR_isLevel_10 (by decide) ?_
      refine jr_goto 11 15 C d_AR_isLevel_11 (by decide) ?_
      obtain rfl := Option.some.inj h
      exact jr_zret 15 (v := 1) C d_AR_isLevel_15 rfl nb_1
abbrev rm_AR_hasLevel : Room := { frames := 1, cells := 0, slots := 0, locals := 20 }
abbrev cd_AR_hasLevel : Cond := .code y_AR_hasLevel b_AR_hasLevel 3 (some .boolean)
def f_AR_hasLevel (a1 : Int32) (a2 : Int32) (m : jz_M) : Option (Int32) :=
  (f_AR_isLevel a2 m).bind fun v1_ =>
  if v1_ = 0 then
    some 0
  else
    (jz_ix 6 a1).bind fun j3_ =>
    if ((m 2 j3_) &&& a2) = 0 then
      some 0
    else
      some 1
set_option maxHeartbeats 4000000 in
set_option maxRecDepth 100000 in
theorem c_AR_hasLevel {Z : cz_Z} (l : Launch) (hI : jz_I (cz_G Z)) {a1 : Int32} {a2 : Int32} {m : jz_M} {r : Int32} (h : f_AR_hasLevel a1 a2 m = some r) : jz_m l y_AR_hasLevel cd_AR_hasLevel rm_AR_hasLevel (cz_G Z) [.ref (gz_ad (cz_G Z) 0), .int a1, .int a2] m (some (.int r)) m := by
  refine jz_met (own := R_AR) (by decide) rfl hI (Nat.le_of_ble_eq_true rfl) (fun X hX C => ?_)
  subst hX
  show jz_J X 3 (cz_G Z) _ m [(0, .ref (gz_ad (cz_G Z) 0)), (1, .int a1), (2, .int a2)] 0 []
  unfold f_AR_hasLevel at h
  refine jr_iload_n 0 C d_AR_hasLevel_0 rfl ?_
  obtain ⟨v1_, ev1_, h⟩ := jz_b h
  refine jr_callS 1 [.int a2] C d_AR_hasLevel_1 (c_AR_isLevel (xz_l X) C.2.2.2.2.2.2.1 ev1_) sz_AR_isLevel tz_AR_isLevel lk_AR_147 (by decide) rfl rfl (Nat.le_of_ble_eq_true rfl) rfl ?_
  refine jr_if_eq 4 22 C d_AR_hasLevel_4 (by decide) (fun c2_ => ?_) (fun c2_ => ?_)
  · have h := jz_t c2_ h
    refine jr_iconst 22 0 C d_AR_hasLevel_22 (by decide) ?_
    obtain rfl := Option.some.inj h
    exact jr_zret 23 (v := 0) C d_AR_hasLevel_23 rfl nb_0
  · have h := jz_f c2_ h
    refine jr_aload_n 7 C d_AR_hasLevel_7 rfl ?_
    refine gf_AR_13 8 C d_AR_hasLevel_8 ?_
    refine jr_iload_n 11 C d_AR_hasLevel_11 rfl ?_
    obtain ⟨j3_, ej3_, h⟩ := jz_b h
    refine jr_iald 12 C d_AR_hasLevel_12 zk_AR_levelSets ej3_ ?_
    refine jr_iload_n 13 C d_AR_hasLevel_13 rfl ?_
    refine jr_iand 14 C d_AR_hasLevel_14 ?_
    refine jr_if_eq 15 22 C d_AR_hasLevel_15 (by decide) (fun c4_ => ?_) (fun c4_ => ?_)
    · have h := jz_t c4_ h
      refine jr_iconst 22 0 C d_AR_hasLevel_22 (by decide) ?_
      obtain rfl := Option.some.inj h
      exact jr_zret 23 (v := 0) C d_AR_hasLevel_23 rfl nb_0
    · have h := jz_f c4_ h
      refine jr_iconst 18 1 C d_AR_hasLevel_18 (by decide) ?_
      refine jr_goto 19 23 C d_AR_hasLevel_19 (by decide) ?_
      obtain rfl := Option.some.inj h
      exact jr_zret 23 (v := 1) C d_AR_hasLevel_23 rfl nb_1
abbrev rm_AR_hearingAt : Room := { frames := 0, cells := 0, slots := 0, locals := 0 }
abbrev cd_AR_hearingAt : Cond := .code y_AR_hearingAt b_AR_hearingAt 2 (some (.object "AreaRouters$Hearing"))
def f_AR_hearingAt (a1 : Int32) (m : jz_M) : Option (Nat) :=
  (jz_ix 2 (a1 - 1)).bind fun j1_ =>
  some (7 + 3 * j1_)
set_option maxHeartbeats 4000000 in
set_option maxRecDepth 100000 in
theorem c_AR_hearingAt {Z : cz_Z} (l : Launch) (hI : jz_I (cz_G Z)) {a1 : Int32} {m : jz_M} {r : Nat} (h : f_AR_hearingAt a1 m = some r) : jz_m l y_AR_hearingAt cd_AR_hearingAt rm_AR_hearingAt (cz_G Z) [.ref (gz_ad (cz_G Z) 0), .int a1] m (some (.ref (gz_ad (cz_G Z) r))) m := by
  refine jz_met (own := R_AR) (by decide) rfl hI (Nat.le_of_ble_eq_true rfl) (fun X hX C => ?_)
  subst hX
  show jz_J X 2 (cz_G Z) _ m [(0, .ref (gz_ad (cz_G Z) 0)), (1, .int a1)] 0 []
  unfold f_AR_hearingAt at h
  refine jr_aload_n 0 C d_AR_hearingAt_0 rfl ?_
  refine gf_AR_25 1 C d_AR_hearingAt_1 ?_
  refine jr_iload_n 4 C d_AR_hearingAt_4 rfl ?_
  refine jr_iconst 5 1 C d_AR_hearingAt_5 (by decide) ?_
  refine jr_isub 6 C d_AR_hearingAt_6 ?_
  obtain ⟨j1_, ej1_, h⟩ := jz_b h
  refine jr_aald 7 C d_AR_hearingAt_7 zk_AR_hearings ej1_ ?_
  obtain rfl := Option.some.inj h
  exact jr_aret 8 C d_AR_hearingAt_8 rfl (by first | exact Or.inl ⟨_, rfl⟩ | exact Or.inr ⟨_, rfl⟩)
theorem kr_AR_hearingAt {a1 : Int32} {m : jz_M} {r : Nat} (h : f_AR_hearingAt a1 m = some r) : kz_He r := by
  unfold f_AR_hearingAt at h
  obtain ⟨j, e, h⟩ := jz_b h
  obtain rfl := Option.some.inj h
  exact ke_He e
end
section
abbrev rm_He_isHeard : Room := { frames := 0, cells := 0, slots := 0, locals := 0 }
abbrev cd_He_isHeard : Cond := .code y_He_isHeard b_He_isHeard 4 (some .boolean)
def f_He_isHeard (o0 : Nat) (a1 : Int32) (a2 : Int32) (a3 : Int32) (m : jz_M) : Option (Int32) :=
  (jz_ix 216 ((((a1 * 6) + a2) * 6) + a3)).bind fun j1_ =>
  if (m (o0 + 1) j1_) ≤ 0 then
    some 0
  else
    some 1
set_option maxHeartbeats 4000000 in
set_option maxRecDepth 100000 in
theorem c_He_isHeard {Z : cz_Z} (l : Launch) (hI : jz_I (cz_G Z)) {o0 : Nat} {a1 : Int32} {a2 : Int32} {a3 : Int32} {m : jz_M} {r : Int32} (ko0 : kz_He o0) (h : f_He_isHeard o0 a1 a2 a3 m = some r) : jz_m l y_He_isHeard cd_He_isHeard rm_He_isHeard (cz_G Z) [.ref (gz_ad (cz_G Z) o0), .int a1, .int a2, .int a3] m (some (.int r)) m := by
  refine jz_met (own := R_He) (by decide) rfl hI (Nat.le_of_ble_eq_true rfl) (fun X hX C => ?_)
  subst hX
  show jz_J X 4 (cz_G Z) _ m [(0, .ref (gz_ad (cz_G Z) o0)), (1, .int a1), (2, .int a2), (3, .int a3)] 0 []
  unfold f_He_isHeard at h
  refine jr_aload_n 0 C d_He_isHeard_0 rfl ?_
  refine gf_He_11 1 C d_He_isHeard_1 ko0 ?_
  refine jr_iload_n 4 C d_He_isHeard_4 rfl ?_
  refine jr_bipush 5 6 C d_He_isHeard_5 (by decide) ?_
  refine jr_imul 7 C d_He_isHeard_7 ?_
  refine jr_iload_n 8 C d_He_isHeard_8 rfl ?_
  refine jr_iadd 9 C d_He_isHeard_9 ?_
  refine jr_bipush 10 6 C d_He_isHeard_10 (by decide) ?_
  refine jr_imul 12 C d_He_isHeard_12 ?_
  refine jr_iload_n 13 C d_He_isHeard_13 rfl ?_
  refine jr_iadd 14 C d_He_isHeard_14 ?_
  obtain ⟨j1_, ej1_, h⟩ := jz_b h
  refine jr_iald 15 C d_He_isHeard_15 (zk_He_ticksLeft ko0) ej1_ ?_
  refine jr_if_le 16 23 C d_He_isHeard_16 (by decide) (fun c2_ => ?_) (fun c2_ => ?_)
  · have h := jz_t c2_ h
    refine jr_iconst 23 0 C d_He_isHeard_23 (by decide) ?_
    obtain rfl := Option.some.inj h
    exact jr_zret 24 (v := 0) C d_He_isHeard_24 rfl nb_0
  · have h := jz_f c2_ h
    refine jr_iconst 19 1 C d_He_isHeard_19 (by decide) ?_
    refine jr_goto 20 24 C d_He_isHeard_20 (by decide) ?_
    obtain rfl := Option.some.inj h
    exact jr_zret 24 (v := 1) C d_He_isHeard_24 rfl nb_1
abbrev rm_He_note : Room := { frames := 0, cells := 0, slots := 0, locals := 0 }
abbrev cd_He_note : Cond := .code y_He_note b_He_note 6 none
def f_He_note (o0 : Nat) (a1 : Int32) (a2 : Int32) (a3 : Int32) (a4 : Int32) (m : jz_M) : Option (jz_M) :=
  jz_n ((((a1 * 6) + a2) * 6) + a3) fun x1_ =>
  (jz_ix 216 x1_).bind fun j2_ =>
  jz_n (jz_up m (o0 + 1) j2_ 4) fun m3_ =>
  (jz_ix 216 x1_).bind fun j4_ =>
  jz_n (jz_up m3_ (o0 + 2) j4_ (vp_nar .boolean a4)) fun m5_ =>
  some m5_
set_option maxHeartbeats 4000000 in
set_option maxRecDepth 100000 in
theorem c_He_note {Z : cz_Z} (l : Launch) (hI : jz_I (cz_G Z)) {o0 : Nat} {a1 : Int32} {a2 : Int32} {a3 : Int32} {a4 : Int32} {m : jz_M} {r : jz_M} (ko0 : kz_He o0) (h : f_He_note o0 a1 a2 a3 a4 m = some r) : jz_m l y_He_note cd_He_note rm_He_note (cz_G Z) [.ref (gz_ad (cz_G Z) o0), .int a1, .int a2, .int a3, .int a4] m none r := by
  refine jz_met (own := R_He) (by decide) rfl hI (Nat.le_of_ble_eq_true rfl) (fun X hX C => ?_)
  subst hX
  show jz_J X 6 (cz_G Z) _ m [(0, .ref (gz_ad (cz_G Z) o0)), (1, .int a1), (2, .int a2), (3, .int a3), (4, .int a4)] 0 []
  unfold f_He_note at h
  refine jr_iload_n 0 C d_He_note_0 rfl ?_
  refine jr_bipush 1 6 C d_He_note_1 (by decide) ?_
  refine jr_imul 3 C d_He_note_3 ?_
  refine jr_iload_n 4 C d_He_note_4 rfl ?_
  refine jr_iadd 5 C d_He_note_5 ?_
  refine jr_bipush 6 6 C d_He_note_6 (by decide) ?_
  refine jr_imul 8 C d_He_note_8 ?_
  refine jr_iload_n 9 C d_He_note_9 rfl ?_
  refine jr_iadd 10 C d_He_note_10 ?_
  obtain ⟨x1_, ex1_, h⟩ := jz_ne h
  refine jr_top ex1_ ?_
  refine jr_istore 11 [(0, .ref (gz_ad (cz_G Z) o0)), (1, .int a1), (2, .int a2), (3, .int a3), (4, .int a4), (5, .int x1_)] C d_He_note_11 rfl (by decide) rfl ?_
  refine jr_aload_n 13 C d_He_note_13 rfl ?_
  refine gf_He_11 14 C d_He_note_14 ko0 ?_
  refine jr_iload 17 C d_He_note_17 rfl ?_
  refine jr_iconst 19 4 C d_He_note_19 (by decide) ?_
  obtain ⟨j2_, ej2_, h⟩ := jz_b h
  obtain ⟨m3_, em3_, h⟩ := jz_ne h
  refine jr_iast 20 C d_He_note_20 (zk_He_ticksLeft ko0) ej2_ ?_
  refine jr_mem em3_ ?_
  refine jr_aload_n 21 C d_He_note_21 rfl ?_
  refine gf_He_15 22 C d_He_note_22 ko0 ?_
  refine jr_iload 25 C d_He_note_25 rfl ?_
  refine jr_iload 27 C d_He_note_27 rfl ?_
  obtain ⟨j4_, ej4_, h⟩ := jz_b h
  obtain ⟨m5_, em5_, h⟩ := jz_ne h
  refine jr_zast 29 C d_He_note_29 (zk_He_named ko0) ej4_ ?_
  refine jr_mem em5_ ?_
  obtain rfl := Option.some.inj h
  exact jr_vret 30 C d_He_note_30 rfl
abbrev rm_AR_noteHello : Room := { frames := 2, cells := 0, slots := 0, locals := 42 }
abbrev cd_AR_noteHello : Cond := .code y_AR_noteHello b_AR_noteHello 7 none
def f_AR_noteHello_62 (k3 : Int32 → Int32 → Int32 → Int32 → jz_M → Option (jz_M)) (x1 : Int32) (x2 : Int32) (x3 : Int32) (x4 : Int32) (m : jz_M) : Option (jz_M) :=
  (f_AR_hearingAt x4 m).bind fun v1_ =>
  (f_He_isHeard v1_ x3 x2 x1 m).bind fun v2_ =>
  (f_He_note v1_ x1 x2 x3 v2_ m).bind fun v3_ =>
  jz_n (x4 + 1) fun x4_ =>
  k3 x1 x2 x3 x4_ v3_
set_option maxHeartbeats 4000000 in
set_option maxRecDepth 100000 in
theorem t_AR_noteHello_62 {Z : cz_Z} {X : jz_X} {r : jz_M} (C : jz_C X 7 b_AR_noteHello R_AR none rm_AR_noteHello (cz_G Z)) (k3 : Int32 → Int32 → Int32 → Int32 → jz_M → Option (jz_M)) (hk3 : ∀ (x1 : Int32) (x2 : Int32) (x3 : Int32) (x4 : Int32) (m : jz_M), k3 x1 x2 x3 x4 m = some r → jz_J X 7 (cz_G Z) (jz_q X (cz_G Z) none r) m [(0, .ref (gz_ad (cz_G Z) 0)), (1, .int x1), (2, .int x2), (3, .int x3), (4, .int x4)] 3 []) : ∀ (x1 : Int32) (x2 : Int32) (x3 : Int32) (x4 : Int32) (m : jz_M) , f_AR_noteHello_62 k3 x1 x2 x3 x4 m = some r → jz_J X 7 (cz_G Z) (jz_q X (cz_G Z) none r) m [(0, .ref (gz_ad (cz_G Z) 0)), (1, .int x1), (2, .int x2), (3, .int x3), (4, .int x4)] 62 [] := by
  intro x1 x2 x3 x4 m h
  unfold f_AR_noteHello_62 at h
  refine jr_aload_n 62 C d_AR_noteHello_62 rfl ?_
  refine jr_iload 63 C d_AR_noteHello_63 rfl ?_
  obtain ⟨v1_, ev1_, h⟩ := jz_b h
  refine jr_callV 65 [.int x4] C d_AR_noteHello_65 (c_AR_hearingAt (xz_l X) C.2.2.2.2.2.2.1 ev1_) sz_AR_hearingAt tz_AR_hearingAt lk_AR_150 oz_AR rfl (by decide) rfl rfl (Nat.le_of_ble_eq_true rfl) rfl ?_
  refine jr_astore 68 [(0, .ref (gz_ad (cz_G Z) 0)), (1, .int x1), (2, .int x2), (3, .int x3), (4, .int x4), (6, .ref (gz_ad (cz_G Z) v1_))] C d_AR_noteHello_68 rfl (by decide) rfl ?_
  refine jr_aload 70 C d_AR_noteHello_70 rfl ?_
  refine jr_iload_n 72 C d_AR_noteHello_72 rfl ?_
  refine jr_iload_n 73 C d_AR_noteHello_73 rfl ?_
  refine jr_iload_n 74 C d_AR_noteHello_74 rfl ?_
  refine jr_aload 75 C d_AR_noteHello_75 rfl ?_
  refine jr_iload_n 77 C d_AR_noteHello_77 rfl ?_
  refine jr_iload_n 78 C d_AR_noteHello_78 rfl ?_
  refine jr_iload_n 79 C d_AR_noteHello_79 rfl ?_
  obtain ⟨v2_, ev2_, h⟩ := jz_b h
  refine jr_callVN 80 [.int x3, .int x2, .int x1] C d_AR_noteHello_80 (c_He_isHeard (xz_l X) C.2.2.2.2.2.2.1 (kr_AR_hearingAt ev1_) ev2_) sz_He_isHeard tz_He_isHeard lk_AR_186 (oz_He (kr_AR_hearingAt ev1_)) rfl (by decide) rfl rfl (Nat.le_of_ble_eq_true rfl) rfl ?_
  obtain ⟨v3_, ev3_, h⟩ := jz_b h
  refine jr_callVN 83 [.int x1, .int x2, .int x3, .int v2_] C d_AR_noteHello_83 (c_He_note (xz_l X) C.2.2.2.2.2.2.1 (kr_AR_hearingAt ev1_) ev3_) sz_He_note tz_He_note lk_AR_189 (oz_He (kr_AR_hearingAt ev1_)) rfl (by decide) rfl rfl (Nat.le_of_ble_eq_true rfl) rfl ?_
  obtain ⟨x4_, ex4_, h⟩ := jz_ne h
  refine jr_iinc 86 [(0, .ref (gz_ad (cz_G Z) 0)), (1, .int x1), (2, .int x2), (3, .int x3), (4, .int x4_), (6, .ref (gz_ad (cz_G Z) v1_))] C d_AR_noteHello_86 rfl (by decide) rfl (by rw [ex4_]; rfl) rfl ?_
  refine jr_goto 89 3 C d_AR_noteHello_89 (by decide) ?_
  refine jr_sub [0, 1, 2, 3, 4] rfl ?_
  exact hk3 x1 x2 x3 x4_ v3_ h
def f_AR_noteHello_34 (k3 : Int32 → Int32 → Int32 → Int32 → jz_M → Option (jz_M)) (x1 : Int32) (x2 : Int32) (x3 : Int32) (x4 : Int32) (s0 : Int32) (m : jz_M) : Option (jz_M) :=
  if s0 = 0 then
    jz_n (x4 + 1) fun x2_ =>
    k3 x1 x2 x3 x2_ m
  else
    if x4 = 2 then
      f_AR_noteHello_62 k3 x1 x2 x3 x4 m
    else
      (jz_ix 6 x1).bind fun j4_ =>
      (jz_ix 6 x3).bind fun j5_ =>
      if ¬ (m 1 j4_) = (m 1 j5_) then
        jz_n (x4 + 1) fun x7_ =>
        k3 x1 x2 x3 x7_ m
      else
        f_AR_noteHello_62 k3 x1 x2 x3 x4 m
set_option maxHeartbeats 4000000 in
set_option maxRecDepth 100000 in
theorem t_AR_noteHello_34 {Z : cz_Z} {X : jz_X} {r : jz_M} (C : jz_C X 7 b_AR_noteHello R_AR none rm_AR_noteHello (cz_G Z)) (k3 : Int32 → Int32 → Int32 → Int32 → jz_M → Option (jz_M)) (hk3 : ∀ (x1 : Int32) (x2 : Int32) (x3 : Int32) (x4 : Int32) (m : jz_M), k3 x1 x2 x3 x4 m = some r → jz_J X 7 (cz_G Z) (jz_q X (cz_G Z) none r) m [(0, .ref (gz_ad (cz_G Z) 0)), (1, .int x1), (2, .int x2), (3, .int x3), (4, .int x4)] 3 []) : ∀ (x1 : Int32) (x2 : Int32) (x3 : Int32) (x4 : Int32) (s0 : Int32) (m : jz_M) , f_AR_noteHello_34 k3 x1 x2 x3 x4 s0 m = some r → jz_J X 7 (cz_G Z) (jz_q X (cz_G Z) none r) m [(0, .ref (gz_ad (cz_G Z) 0)), (1, .int x1), (2, .int x2), (3, .int x3), (4, .int x4)] 34 [.int s0] := by
  intro x1 x2 x3 x4 s0 m h
  unfold f_AR_noteHello_34 at h
  refine jr_istore 34 [(0, .ref (gz_ad (cz_G Z) 0)), (1, .int x1), (2, .int x2), (3, .int x3), (4, .int x4), (5, .int s0)] C d_AR_noteHello_34 rfl (by decide) rfl ?_
  refine jr_iload 36 C d_AR_noteHello_36 rfl ?_
  refine jr_if_eq 38 86 C d_AR_noteHello_38 (by decide) (fun c1_ => ?_) (fun c1_ => ?_)
  · have h := jz_t c1_ h
    obtain ⟨x2_, ex2_, h⟩ := jz_ne h
    refine jr_iinc 86 [(0, .ref (gz_ad (cz_G Z) 0)), (1, .int x1), (2, .int x2), (3, .int x3), (4, .int x2_), (5, .int s0)] C d_AR_noteHello_86 rfl (by decide) rfl (by rw [ex2_]; rfl) rfl ?_
    refine jr_goto 89 3 C d_AR_noteHello_89 (by decide) ?_
    refine jr_sub [0, 1, 2, 3, 4] rfl ?_
    exact hk3 x1 x2 x3 x2_ m  h
  · have h := jz_f c1_ h
    refine jr_iload 41 C d_AR_noteHello_41 rfl ?_
    refine jr_iconst 43 2 C d_AR_noteHello_43 (by decide) ?_
    refine jr_icmp_eq 44 62 C d_AR_noteHello_44 (by decide) (fun c3_ => ?_) (fun c3_ => ?_)
    · have h := jz_t c3_ h
      refine jr_sub [0, 1, 2, 3, 4] rfl ?_
      exact t_AR_noteHello_62 C k3 hk3 x1 x2 x3 x4 m h
    · have h := jz_f c3_ h
      refine jr_aload_n 47 C d_AR_noteHello_47 rfl ?_
      refine gf_AR_9 48 C d_AR_noteHello_48 ?_
      refine jr_iload_n 51 C d_AR_noteHello_51 rfl ?_
      obtain ⟨j4_, ej4_, h⟩ := jz_b h
      refine jr_iald 52 C d_AR_noteHello_52 zk_AR_areas ej4_ ?_
      refine jr_aload_n 53 C d_AR_noteHello_53 rfl ?_
      refine gf_AR_9 54 C d_AR_noteHello_54 ?_
      refine jr_iload_n 57 C d_AR_noteHello_57 rfl ?_
      obtain ⟨j5_, ej5_, h⟩ := jz_b h
      refine jr_iald 58 C d_AR_noteHello_58 zk_AR_areas ej5_ ?_
      refine jr_icmp_ne 59 86 C d_AR_noteHello_59 (by decide) (fun c6_ => ?_) (fun c6_ => ?_)
      · have h := jz_t c6_ h
        obtain ⟨x7_, ex7_, h⟩ := jz_ne h
        refine jr_iinc 86 [(0, .ref (gz_ad (cz_G Z) 0)), (1, .int x1), (2, .int x2), (3, .int x3), (4, .int x7_), (5, .int s0)] C d_AR_noteHello_86 rfl (by decide) rfl (by rw [ex7_]; rfl) rfl ?_
        refine jr_goto 89 3 C d_AR_noteHello_89 (by decide) ?_
        refine jr_sub [0, 1, 2, 3, 4] rfl ?_
        exact hk3 x1 x2 x3 x7_ m  h
      · have h := jz_f c6_ h
        refine jr_sub [0, 1, 2, 3, 4] rfl ?_
        exact t_AR_noteHello_62 C k3 hk3 x1 x2 x3 x4 m h
def f_AR_noteHello_33 (k3 : Int32 → Int32 → Int32 → Int32 → jz_M → Option (jz_M)) (x1 : Int32) (x2 : Int32) (x3 : Int32) (x4 : Int32) (m : jz_M) : Option (jz_M) :=
  f_AR_noteHello_34 k3 x1 x2 x3 x4 0 m
set_option maxHeartbeats 4000000 in
set_option maxRecDepth 100000 in
theorem t_AR_noteHello_33 {Z : cz_Z} {X : jz_X} {r : jz_M} (C : jz_C X 7 b_AR_noteHello R_AR none rm_AR_noteHello (cz_G Z)) (k3 : Int32 → Int32 → Int32 → Int32 → jz_M → Option (jz_M)) (hk3 : ∀ (x1 : Int32) (x2 : Int32) (x3 : Int32) (x4 : Int32) (m : jz_M), k3 x1 x2 x3 x4 m = some r → jz_J X 7 (cz_G Z) (jz_q X (cz_G Z) none r) m [(0, .ref (gz_ad (cz_G Z) 0)), (1, .int x1), (2, .int x2), (3, .int x3), (4, .int x4)] 3 []) : ∀ (x1 : Int32) (x2 : Int32) (x3 : Int32) (x4 : Int32) (m : jz_M) , f_AR_noteHello_33 k3 x1 x2 x3 x4 m = some r → jz_J X 7 (cz_G Z) (jz_q X (cz_G Z) none r) m [(0, .ref (gz_ad (cz_G Z) 0)), (1, .int x1), (2, .int x2), (3, .int x3), (4, .int x4)] 33 [] := by
  intro x1 x2 x3 x4 m h
  unfold f_AR_noteHello_33 at h
  refine jr_iconst 33 0 C d_AR_noteHello_33 (by decide) ?_
  refine jr_sub [0, 1, 2, 3, 4] rfl ?_
  exact t_AR_noteHello_34 C k3 hk3 x1 x2 x3 x4 0 m h
def f_AR_noteHello_3 : Nat → Int32 → Int32 → Int32 → Int32 → jz_M → Option (jz_M)
  | 0, _, _, _, _, _ => none
  | fu + 1, x1, x2, x3, x4, m =>
    if 2 < x4 then
      some m
    else
      (f_AR_hasLevel x1 x4 m).bind fun v2_ =>
      if v2_ = 0 then
        f_AR_noteHello_33 (f_AR_noteHello_3 fu) x1 x2 x3 x4 m
      else
        (f_AR_hasLevel x3 x4 m).bind fun v4_ =>
        if v4_ = 0 then
          f_AR_noteHello_33 (f_AR_noteHello_3 fu) x1 x2 x3 x4 m
        else
          f_AR_noteHello_34 (f_AR_noteHello_3 fu) x1 x2 x3 x4 1 m
set_option maxHeartbeats 4000000 in
set_option maxRecDepth 100000 in
theorem t_AR_noteHello_3 {Z : cz_Z} {X : jz_X} {r : jz_M} (C : jz_C X 7 b_AR_noteHello R_AR none rm_AR_noteHello (cz_G Z)) : ∀ (fu : Nat) (x1 : Int32) (x2 : Int32) (x3 : Int32) (x4 : Int32) (m : jz_M) , f_AR_noteHello_3 fu x1 x2 x3 x4 m = some r → jz_J X 7 (cz_G Z) (jz_q X (cz_G Z) none r) m [(0, .ref (gz_ad (cz_G Z) 0)), (1, .int x1), (2, .int x2), (3, .int x3), (4, .int x4)] 3 [] := by
  intro fu
  induction fu with
  | zero => intro x1 x2 x3 x4 m h; cases h
  | succ fu ih =>
    intro x1 x2 x3 x4 m h
    rw [f_AR_noteHello_3] at h
    refine jr_iload 3 C d_AR_noteHello_3 rfl ?_
    refine jr_iconst 5 2 C d_AR_noteHello_5 (by decide) ?_
    refine jr_icmp_gt 6 92 C d_AR_noteHello_6 (by decide) (fun c1_ => ?_) (fun c1_ => ?_)
    · have h := jz_t c1_ h
      obtain rfl := Option.some.inj h
      exact jr_vret 92 C d_AR_noteHello_92 rfl
    · have h := jz_f c1_ h
      refine jr_aload_n 9 C d_AR_noteHello_9 rfl ?_
      refine jr_iload_n 10 C d_AR_noteHello_10 rfl ?_
      refine jr_iload 11 C d_AR_noteHello_11 rfl ?_
      obtain ⟨v2_, ev2_, h⟩ := jz_b h
      refine jr_callV 13 [.int x1, .int x4] C d_AR_noteHello_13 (c_AR_hasLevel (xz_l X) C.2.2.2.2.2.2.1  ev2_) sz_AR_hasLevel tz_AR_hasLevel lk_AR_134 oz_AR rfl (by decide) rfl rfl (Nat.le_of_ble_eq_true rfl) rfl ?_
      refine jr_if_eq 16 33 C d_AR_noteHello_16 (by decide) (fun c3_ => ?_) (fun c3_ => ?_)
      · have h := jz_t c3_ h
        refine jr_sub [0, 1, 2, 3, 4] rfl ?_
        exact t_AR_noteHello_33 C (f_AR_noteHello_3 fu) ih x1 x2 x3 x4 m h
      · have h := jz_f c3_ h
        refine jr_aload_n 19 C d_AR_noteHello_19 rfl ?_
        refine jr_iload_n 20 C d_AR_noteHello_20 rfl ?_
        refine jr_iload 21 C d_AR_noteHello_21 rfl ?_
        obtain ⟨v4_, ev4_, h⟩ := jz_b h
        refine jr_callV 23 [.int x3, .int x4] C d_AR_noteHello_23 (c_AR_hasLevel (xz_l X) C.2.2.2.2.2.2.1  ev4_) sz_AR_hasLevel tz_AR_hasLevel lk_AR_134 oz_AR rfl (by decide) rfl rfl (Nat.le_of_ble_eq_true rfl) rfl ?_
        refine jr_if_eq 26 33 C d_AR_noteHello_26 (by decide) (fun c5_ => ?_) (fun c5_ => ?_)
        · have h := jz_t c5_ h
          refine jr_sub [0, 1, 2, 3, 4] rfl ?_
          exact t_AR_noteHello_33 C (f_AR_noteHello_3 fu) ih x1 x2 x3 x4 m h
        · have h := jz_f c5_ h
          refine jr_iconst 29 1 C d_AR_noteHello_29 (by decide) ?_
          refine jr_goto 30 34 C d_AR_noteHello_30 (by decide) ?_
          refine jr_sub [0, 1, 2, 3, 4] rfl ?_
          exact t_AR_noteHello_34 C (f_AR_noteHello_3 fu) ih x1 x2 x3 x4 1 m h
def f_AR_noteHello (a1 : Int32) (a2 : Int32) (a3 : Int32) (m : jz_M) : Option (jz_M) :=
  f_AR_noteHello_3 1000 a1 a2 a3 1 m
set_option maxHeartbeats 4000000 in
set_option maxRecDepth 100000 in
theorem c_AR_noteHello {Z : cz_Z} (l : Launch) (hI : jz_I (cz_G Z)) {a1 : Int32} {a2 : Int32} {a3 : Int32} {m : jz_M} {r : jz_M} (h : f_AR_noteHello a1 a2 a3 m = some r) : jz_m l y_AR_noteHello cd_AR_noteHello rm_AR_noteHello (cz_G Z) [.ref (gz_ad (cz_G Z) 0), .int a1, .int a2, .int a3] m none r := by
  refine jz_met (own := R_AR) (by decide) rfl hI (Nat.le_of_ble_eq_true rfl) (fun X hX C => ?_)
  subst hX
  show jz_J X 7 (cz_G Z) _ m [(0, .ref (gz_ad (cz_G Z) 0)), (1, .int a1), (2, .int a2), (3, .int a3)] 0 []
  unfold f_AR_noteHello at h
  refine jr_iconst 0 1 C d_AR_noteHello_0 (by decide) ?_
  refine jr_istore 1 [(0, .ref (gz_ad (cz_G Z) 0)), (1, .int a1), (2, .int a2), (3, .int a3), (4, .int 1)] C d_AR_noteHello_1 rfl (by decide) rfl ?_
  refine jr_sub [0, 1, 2, 3, 4] rfl ?_
  exact t_AR_noteHello_3 C 1000 a1 a2 a3 1 m h
abbrev rm_AR_hello : Room := { frames := 3, cells := 0, slots := 0, locals := 68 }
abbrev cd_AR_hello : Cond := .code y_AR_hello b_AR_hello 6 (some .int)
def f_AR_hello_12 : Nat → Int32 → Int32 → Int32 → Int32 → Int32 → jz_M → Option (Int32 × jz_M)
  | 0, _, _, _, _, _, _ => none
  | fu + 1, x1, x2, x3, x4, x5, m =>
    if 6 ≤ x5 then
      some (x4, m)
    else
      if x5 = x1 then
        jz_n (x5 + 1) fun x3_ =>
        f_AR_hello_12 fu x1 x2 x3 x4 x3_ m
      else
        (f_AR_isMeant x5 x3 m).bind fun v4_ =>
        if v4_ = 0 then
          jz_n (x5 + 1) fun x6_ =>
          f_AR_hello_12 fu x1 x2 x3 x4 x6_ m
        else
          (f_Wi_isAttached x5 x2 m).bind fun v7_ =>
          if v7_ = 0 then
            jz_n (x5 + 1) fun x9_ =>
            f_AR_hello_12 fu x1 x2 x3 x4 x9_ m
          else
            (f_AR_noteHello x5 x2 x1 m).bind fun v10_ =>
            jz_n (x4 + 1) fun x11_ =>
            jz_n (x5 + 1) fun x12_ =>
            f_AR_hello_12 fu x1 x2 x3 x11_ x12_ v10_
set_option maxHeartbeats 4000000 in
set_option maxRecDepth 100000 in
theorem t_AR_hello_12 {Z : cz_Z} {X : jz_X} {r : Int32 × jz_M} (C : jz_C X 6 b_AR_hello R_AR (some .int) rm_AR_hello (cz_G Z)) : ∀ (fu : Nat) (x1 : Int32) (x2 : Int32) (x3 : Int32) (x4 : Int32) (x5 : Int32) (m : jz_M) , f_AR_hello_12 fu x1 x2 x3 x4 x5 m = some r → jz_J X 6 (cz_G Z) (jz_q X (cz_G Z) (some (.int r.1)) r.2) m [(0, .ref (gz_ad (cz_G Z) 0)), (1, .int x1), (2, .int x2), (3, .int x3), (4, .int x4), (5, .int x5)] 12 [] := by
  intro fu
  induction fu with
  | zero => intro x1 x2 x3 x4 x5 m h; cases h
  | succ fu ih =>
    intro x1 x2 x3 x4 x5 m h
    rw [f_AR_hello_12] at h
    refine jr_iload 12 C d_AR_hello_12 rfl ?_
    refine jr_bipush 14 6 C d_AR_hello_14 (by decide) ?_
    refine jr_icmp_ge 16 64 C d_AR_hello_16 (by decide) (fun c1_ => ?_) (fun c1_ => ?_)
    · have h := jz_t c1_ h
      refine jr_iload 64 C d_AR_hello_64 rfl ?_
      obtain rfl := Option.some.inj h
      exact jr_iret 66 (v := x4) C d_AR_hello_66 rfl
    · have h := jz_f c1_ h
      refine jr_iload 19 C d_AR_hello_19 rfl ?_
      refine jr_iload_n 21 C d_AR_hello_21 rfl ?_
      refine jr_icmp_eq 22 58 C d_AR_hello_22 (by decide) (fun c2_ => ?_) (fun c2_ => ?_)
      · have h := jz_t c2_ h
        obtain ⟨x3_, ex3_, h⟩ := jz_ne h
        refine jr_iinc 58 [(0, .ref (gz_ad (cz_G Z) 0)), (1, .int x1), (2, .int x2), (3, .int x3), (4, .int x4), (5, .int x3_)] C d_AR_hello_58 rfl (by decide) rfl (by rw [ex3_]; rfl) rfl ?_
        refine jr_goto 61 12 C d_AR_hello_61 (by decide) ?_
        refine jr_sub [0, 1, 2, 3, 4, 5] rfl ?_
        exact ih x1 x2 x3 x4 x3_ m  h
      · have h := jz_f c2_ h
        refine jr_iload 25 C d_AR_hello_25 rfl ?_
        refine jr_iload_n 27 C d_AR_hello_27 rfl ?_
        obtain ⟨v4_, ev4_, h⟩ := jz_b h
        refine jr_callS 28 [.int x5, .int x3] C d_AR_hello_28 (c_AR_isMeant (xz_l X) C.2.2.2.2.2.2.1  ev4_) sz_AR_isMeant tz_AR_isMeant lk_AR_77 (by decide) rfl rfl (Nat.le_of_ble_eq_true rfl) rfl ?_
        refine jr_if_eq 31 58 C d_AR_hello_31 (by decide) (fun c5_ => ?_) (fun c5_ => ?_)
        · have h := jz_t c5_ h
          obtain ⟨x6_, ex6_, h⟩ := jz_ne h
          refine jr_iinc 58 [(0, .ref (gz_ad (cz_G Z) 0)), (1, .int x1), (2, .int x2), (3, .int x3), (4, .int x4), (5, .int x6_)] C d_AR_hello_58 rfl (by decide) rfl (by rw [ex6_]; rfl) rfl ?_
          refine jr_goto 61 12 C d_AR_hello_61 (by decide) ?_
          refine jr_sub [0, 1, 2, 3, 4, 5] rfl ?_
          exact ih x1 x2 x3 x4 x6_ m  h
        · have h := jz_f c5_ h
          refine jr_aload_n 34 C d_AR_hello_34 rfl ?_
          refine gf_AR_19 35 C d_AR_hello_35 ?_
          refine jr_iload 38 C d_AR_hello_38 rfl ?_
          refine jr_iload_n 40 C d_AR_hello_40 rfl ?_
          obtain ⟨v7_, ev7_, h⟩ := jz_b h
          refine jr_callVN 41 [.int x5, .int x2] C d_AR_hello_41 (c_Wi_isAttached (xz_l X) C.2.2.2.2.2.2.1  ev7_) sz_Wi_isAttached tz_Wi_isAttached lk_AR_62 oz_Wi rfl (by decide) rfl rfl (Nat.le_of_ble_eq_true rfl) rfl ?_
          refine jr_if_eq 44 58 C d_AR_hello_44 (by decide) (fun c8_ => ?_) (fun c8_ => ?_)
          · have h := jz_t c8_ h
            obtain ⟨x9_, ex9_, h⟩ := jz_ne h
            refine jr_iinc 58 [(0, .ref (gz_ad (cz_G Z) 0)), (1, .int x1), (2, .int x2), (3, .int x3), (4, .int x4), (5, .int x9_)] C d_AR_hello_58 rfl (by decide) rfl (by rw [ex9_]; rfl) rfl ?_
            refine jr_goto 61 12 C d_AR_hello_61 (by decide) ?_
            refine jr_sub [0, 1, 2, 3, 4, 5] rfl ?_
            exact ih x1 x2 x3 x4 x9_ m  h
          · have h := jz_f c8_ h
            refine jr_aload_n 47 C d_AR_hello_47 rfl ?_
            refine jr_iload 48 C d_AR_hello_48 rfl ?_
            refine jr_iload_n 50 C d_AR_hello_50 rfl ?_
            refine jr_iload_n 51 C d_AR_hello_51 rfl ?_
            obtain ⟨v10_, ev10_, h⟩ := jz_b h
            refine jr_callV 52 [.int x5, .int x2, .int x1] C d_AR_hello_52 (c_AR_noteHello (xz_l X) C.2.2.2.2.2.2.1  ev10_) sz_AR_noteHello tz_AR_noteHello lk_AR_80 oz_AR rfl (by decide) rfl rfl (Nat.le_of_ble_eq_true rfl) rfl ?_
            obtain ⟨x11_, ex11_, h⟩ := jz_ne h
            refine jr_iinc 55 [(0, .ref (gz_ad (cz_G Z) 0)), (1, .int x1), (2, .int x2), (3, .int x3), (4, .int x11_), (5, .int x5)] C d_AR_hello_55 rfl (by decide) rfl (by rw [ex11_]; rfl) rfl ?_
            obtain ⟨x12_, ex12_, h⟩ := jz_ne h
            refine jr_iinc 58 [(0, .ref (gz_ad (cz_G Z) 0)), (1, .int x1), (2, .int x2), (3, .int x3), (4, .int x11_), (5, .int x12_)] C d_AR_hello_58 rfl (by decide) rfl (by rw [ex12_]; rfl) rfl ?_
            refine jr_goto 61 12 C d_AR_hello_61 (by decide) ?_
            refine jr_sub [0, 1, 2, 3, 4, 5] rfl ?_
            exact ih x1 x2 x3 x11_ x12_ v10_  h
def f_AR_hello (a1 : Int32) (a2 : Int32) (a3 : Int32) (m : jz_M) : Option (Int32 × jz_M) :=
  (f_AR_checkSender a1 a2 m).bind fun v1_ =>
  f_AR_hello_12 1000 a1 a2 a3 0 0 m
set_option maxHeartbeats 4000000 in
set_option maxRecDepth 100000 in
theorem c_AR_hello {Z : cz_Z} (l : Launch) (hI : jz_I (cz_G Z)) {a1 : Int32} {a2 : Int32} {a3 : Int32} {m : jz_M} {r : Int32 × jz_M} (h : f_AR_hello a1 a2 a3 m = some r) : jz_m l y_AR_hello cd_AR_hello rm_AR_hello (cz_G Z) [.ref (gz_ad (cz_G Z) 0), .int a1, .int a2, .int a3] m (some (.int r.1)) r.2 := by
  refine jz_met (own := R_AR) (by decide) rfl hI (Nat.le_of_ble_eq_true rfl) (fun X hX C => ?_)
  subst hX
  show jz_J X 6 (cz_G Z) _ m [(0, .ref (gz_ad (cz_G Z) 0)), (1, .int a1), (2, .int a2), (3, .int a3)] 0 []
  unfold f_AR_hello at h
  refine jr_aload_n 0 C d_AR_hello_0 rfl ?_
  refine jr_iload_n 1 C d_AR_hello_1 rfl ?_
  refine jr_iload_n 2 C d_AR_hello_2 rfl ?_
  obtain ⟨v1_, ev1_, h⟩ := jz_b h
  refine jr_callV 3 [.int a1, .int a2] C d_AR_hello_3 (c_AR_checkSender (xz_l X) C.2.2.2.2.2.2.1 ev1_) sz_AR_checkSender tz_AR_checkSender lk_AR_73 oz_AR rfl (by decide) rfl rfl (Nat.le_of_ble_eq_true rfl) rfl ?_
  refine jr_iconst 6 0 C d_AR_hello_6 (by decide) ?_
  refine jr_istore 7 [(0, .ref (gz_ad (cz_G Z) 0)), (1, .int a1), (2, .int a2), (3, .int a3), (4, .int 0)] C d_AR_hello_7 rfl (by decide) rfl ?_
  refine jr_iconst 9 0 C d_AR_hello_9 (by decide) ?_
  refine jr_istore 10 [(0, .ref (gz_ad (cz_G Z) 0)), (1, .int a1), (2, .int a2), (3, .int a3), (4, .int 0), (5, .int 0)] C d_AR_hello_10 rfl (by decide) rfl ?_
  refine jr_sub [0, 1, 2, 3, 4, 5] rfl ?_
  exact t_AR_hello_12 C 1000 a1 a2 a3 0 0 m h
abbrev rm_AR_checkLevel : Room := { frames := 2, cells := 0, slots := 0, locals := 42 }
abbrev cd_AR_checkLevel : Cond := .code y_AR_checkLevel b_AR_checkLevel 3 none
def f_AR_checkLevel (a1 : Int32) (a2 : Int32) (m : jz_M) : Option (Unit) :=
  (f_AR_hasLevel a1 a2 m).bind fun v1_ =>
  if ¬ v1_ = 0 then
    some ()
  else
    none
set_option maxHeartbeats 4000000 in
set_option maxRecDepth 100000 in
theorem c_AR_checkLevel {Z : cz_Z} (l : Launch) (hI : jz_I (cz_G Z)) {a1 : Int32} {a2 : Int32} {m : jz_M} {r : Unit} (h : f_AR_checkLevel a1 a2 m = some r) : jz_m l y_AR_checkLevel cd_AR_checkLevel rm_AR_checkLevel (cz_G Z) [.ref (gz_ad (cz_G Z) 0), .int a1, .int a2] m none m := by
  refine jz_met (own := R_AR) (by decide) rfl hI (Nat.le_of_ble_eq_true rfl) (fun X hX C => ?_)
  subst hX
  show jz_J X 3 (cz_G Z) _ m [(0, .ref (gz_ad (cz_G Z) 0)), (1, .int a1), (2, .int a2)] 0 []
  unfold f_AR_checkLevel at h
  refine jr_aload_n 0 C d_AR_checkLevel_0 rfl ?_
  refine jr_iload_n 1 C d_AR_checkLevel_1 rfl ?_
  refine jr_iload_n 2 C d_AR_checkLevel_2 rfl ?_
  obtain ⟨v1_, ev1_, h⟩ := jz_b h
  refine jr_callV 3 [.int a1, .int a2] C d_AR_checkLevel_3 (c_AR_hasLevel (xz_l X) C.2.2.2.2.2.2.1 ev1_) sz_AR_hasLevel tz_AR_hasLevel lk_AR_134 oz_AR rfl (by decide) rfl rfl (Nat.le_of_ble_eq_true rfl) rfl ?_
  refine jr_if_ne 6 19 C d_AR_checkLevel_6 (by decide) (fun c2_ => ?_) (fun c2_ => ?_)
  · have h := jz_t c2_ h
    clear h
    exact jr_vret 19 C d_AR_checkLevel_19 rfl
  · have h := jz_f c2_ h
    cases h
abbrev rm_AR_baseOf : Room := { frames := 0, cells := 0, slots := 0, locals := 0 }
abbrev cd_AR_baseOf : Cond := .code y_AR_baseOf b_AR_baseOf 3 (some (.object "AreaRouters$Base"))
def f_AR_baseOf (a1 : Int32) (a2 : Int32) (m : jz_M) : Option (Nat) :=
  (jz_ix 12 (((a2 - 1) * 6) + a1)).bind fun j1_ =>
  some (14 + 11 * j1_)
set_option maxHeartbeats 4000000 in
set_option maxRecDepth 100000 in
theorem c_AR_baseOf {Z : cz_Z} (l : Launch) (hI : jz_I (cz_G Z)) {a1 : Int32} {a2 : Int32} {m : jz_M} {r : Nat} (h : f_AR_baseOf a1 a2 m = some r) : jz_m l y_AR_baseOf cd_AR_baseOf rm_AR_baseOf (cz_G Z) [.ref (gz_ad (cz_G Z) 0), .int a1, .int a2] m (some (.ref (gz_ad (cz_G Z) r))) m := by
  refine jz_met (own := R_AR) (by decide) rfl hI (Nat.le_of_ble_eq_true rfl) (fun X hX C => ?_)
  subst hX
  show jz_J X 3 (cz_G Z) _ m [(0, .ref (gz_ad (cz_G Z) 0)), (1, .int a1), (2, .int a2)] 0 []
  unfold f_AR_baseOf at h
  refine jr_aload_n 0 C d_AR_baseOf_0 rfl ?_
  refine gf_AR_32 1 C d_AR_baseOf_1 ?_
  refine jr_iload_n 4 C d_AR_baseOf_4 rfl ?_
  refine jr_iconst 5 1 C d_AR_baseOf_5 (by decide) ?_
  refine jr_isub 6 C d_AR_baseOf_6 ?_
  refine jr_bipush 7 6 C d_AR_baseOf_7 (by decide) ?_
  refine jr_imul 9 C d_AR_baseOf_9 ?_
  refine jr_iload_n 10 C d_AR_baseOf_10 rfl ?_
  refine jr_iadd 11 C d_AR_baseOf_11 ?_
  obtain ⟨j1_, ej1_, h⟩ := jz_b h
  refine jr_aald 12 C d_AR_baseOf_12 zk_AR_bases ej1_ ?_
  obtain rfl := Option.some.inj h
  exact jr_aret 13 C d_AR_baseOf_13 rfl (by first | exact Or.inl ⟨_, rfl⟩ | exact Or.inr ⟨_, rfl⟩)
theorem kr_AR_baseOf {a1 a2 : Int32} {m : jz_M} {r : Nat} (h : f_AR_baseOf a1 a2 m = some r) : kz_Ba r := by
  unfold f_AR_baseOf at h
  obtain ⟨j, e, h⟩ := jz_b h
  obtain rfl := Option.some.inj h
  exact ke_Ba e
abbrev rm_Ba_isDue : Room := { frames := 0, cells := 0, slots := 0, locals := 0 }
abbrev cd_Ba_isDue : Cond := .code y_Ba_isDue b_Ba_isDue 3 (some .boolean)
def f_Ba_isDue (o0 : Nat) (a1 : Int32) (a2 : Int32) (m : jz_M) : Option (Int32) :=
  (jz_ix 42 a1).bind fun j1_ =>
  if (((m (o0 + 9) j1_) >>> (a2 &&& 31)) &&& 1) = 0 then
    some 0
  else
    some 1
set_option maxHeartbeats 4000000 in
set_option maxRecDepth 100000 in
theorem c_Ba_isDue {Z : cz_Z} (l : Launch) (hI : jz_I (cz_G Z)) {o0 : Nat} {a1 : Int32} {a2 : Int32} {m : jz_M} {r : Int32} (ko0 : kz_Ba o0) (h : f_Ba_isDue o0 a1 a2 m = some r) : jz_m l y_Ba_isDue cd_Ba_isDue rm_Ba_isDue (cz_G Z) [.ref (gz_ad (cz_G Z) o0), .int a1, .int a2] m (some (.int r)) m := by
  refine jz_met (own := R_Ba) (by decide) rfl hI (Nat.le_of_ble_eq_true rfl) (fun X hX C => ?_)
  subst hX
  show jz_J X 3 (cz_G Z) _ m [(0, .ref (gz_ad (cz_G Z) o0)), (1, .int a1), (2, .int a2)] 0 []
  unfold f_Ba_isDue at h
  refine jr_aload_n 0 C d_Ba_isDue_0 rfl ?_
  refine gf_Ba_37 1 C d_Ba_isDue_1 ko0 ?_
  refine jr_iload_n 4 C d_Ba_isDue_4 rfl ?_
  obtain ⟨j1_, ej1_, h⟩ := jz_b h
  refine jr_iald 5 C d_Ba_isDue_5 (zk_Ba_due ko0) ej1_ ?_
  refine jr_iload_n 6 C d_Ba_isDue_6 rfl ?_
  refine jr_ishr 7 C d_Ba_isDue_7 ?_
  refine jr_iconst 8 1 C d_Ba_isDue_8 (by decide) ?_
  refine jr_iand 9 C d_Ba_isDue_9 ?_
  refine jr_if_eq 10 17 C d_Ba_isDue_10 (by decide) (fun c2_ => ?_) (fun c2_ => ?_)
  · have h := jz_t c2_ h
    refine jr_iconst 17 0 C d_Ba_isDue_17 (by decide) ?_
    obtain rfl := Option.some.inj h
    exact jr_zret 18 (v := 0) C d_Ba_isDue_18 rfl nb_0
  · have h := jz_f c2_ h
    refine jr_iconst 13 1 C d_Ba_isDue_13 (by decide) ?_
    refine jr_goto 14 18 C d_Ba_isDue_14 (by decide) ?_
    obtain rfl := Option.some.inj h
    exact jr_zret 18 (v := 1) C d_Ba_isDue_18 rfl nb_1
abbrev rm_He_isMutual : Room := { frames := 0, cells := 0, slots := 0, locals := 0 }
abbrev cd_He_isMutual : Cond := .code y_He_isMutual b_He_isMutual 5 (some .boolean)
def f_He_isMutual (o0 : Nat) (a1 : Int32) (a2 : Int32) (a3 : Int32) (m : jz_M) : Option (Int32) :=
  jz_n ((((a1 * 6) + a2) * 6) + a3) fun x1_ =>
  (jz_ix 216 x1_).bind fun j2_ =>
  if (m (o0 + 1) j2_) ≤ 0 then
    some 0
  else
    (jz_ix 216 x1_).bind fun j4_ =>
    if (m (o0 + 2) j4_) = 0 then
      some 0
    else
      some 1
set_option maxHeartbeats 4000000 in
set_option maxRecDepth 100000 in
theorem c_He_isMutual {Z : cz_Z} (l : Launch) (hI : jz_I (cz_G Z)) {o0 : Nat} {a1 : Int32} {a2 : Int32} {a3 : Int32} {m : jz_M} {r : Int32} (ko0 : kz_He o0) (h : f_He_isMutual o0 a1 a2 a3 m = some r) : jz_m l y_He_isMutual cd_He_isMutual rm_He_isMutual (cz_G Z) [.ref (gz_ad (cz_G Z) o0), .int a1, .int a2, .int a3] m (some (.int r)) m := by
  refine jz_met (own := R_He) (by decide) rfl hI (Nat.le_of_ble_eq_true rfl) (fun X hX C => ?_)
  subst hX
  show jz_J X 5 (cz_G Z) _ m [(0, .ref (gz_ad (cz_G Z) o0)), (1, .int a1), (2, .int a2), (3, .int a3)] 0 []
  unfold f_He_isMutual at h
  refine jr_iload_n 0 C d_He_isMutual_0 rfl ?_
  refine jr_bipush 1 6 C d_He_isMutual_1 (by decide) ?_
  refine jr_imul 3 C d_He_isMutual_3 ?_
  refine jr_iload_n 4 C d_He_isMutual_4 rfl ?_
  refine jr_iadd 5 C d_He_isMutual_5 ?_
  refine jr_bipush 6 6 C d_He_isMutual_6 (by decide) ?_
  refine jr_imul 8 C d_He_isMutual_8 ?_
  refine jr_iload_n 9 C d_He_isMutual_9 rfl ?_
  refine jr_iadd 10 C d_He_isMutual_10 ?_
  obtain ⟨x1_, ex1_, h⟩ := jz_ne h
  refine jr_top ex1_ ?_
  refine jr_istore 11 [(0, .ref (gz_ad (cz_G Z) o0)), (1, .int a1), (2, .int a2), (3, .int a3), (4, .int x1_)] C d_He_isMutual_11 rfl (by decide) rfl ?_
  refine jr_aload_n 13 C d_He_isMutual_13 rfl ?_
  refine gf_He_11 14 C d_He_isMutual_14 ko0 ?_
  refine jr_iload 17 C d_He_isMutual_17 rfl ?_
  obtain ⟨j2_, ej2_, h⟩ := jz_b h
  refine jr_iald 19 C d_He_isMutual_19 (zk_He_ticksLeft ko0) ej2_ ?_
  refine jr_if_le 20 37 C d_He_isMutual_20 (by decide) (fun c3_ => ?_) (fun c3_ => ?_)
  · have h := jz_t c3_ h
    refine jr_iconst 37 0 C d_He_isMutual_37 (by decide) ?_
    obtain rfl := Option.some.inj h
    exact jr_zret 38 (v := 0) C d_He_isMutual_38 rfl nb_0
  · have h := jz_f c3_ h
    refine jr_aload_n 23 C d_He_isMutual_23 rfl ?_
    refine gf_He_15 24 C d_He_isMutual_24 ko0 ?_
    refine jr_iload 27 C d_He_isMutual_27 rfl ?_
    obtain ⟨j4_, ej4_, h⟩ := jz_b h
    refine jr_zald 29 C d_He_isMutual_29 (zk_He_named ko0) ej4_ ?_
    refine jr_if_eq 30 37 C d_He_isMutual_30 (by decide) (fun c5_ => ?_) (fun c5_ => ?_)
    · have h := jz_t c5_ h
      refine jr_iconst 37 0 C d_He_isMutual_37 (by decide) ?_
      obtain rfl := Option.some.inj h
      exact jr_zret 38 (v := 0) C d_He_isMutual_38 rfl nb_0
    · have h := jz_f c5_ h
      refine jr_iconst 33 1 C d_He_isMutual_33 (by decide) ?_
      refine jr_goto 34 38 C d_He_isMutual_34 (by decide) ?_
      obtain rfl := Option.some.inj h
      exact jr_zret 38 (v := 1) C d_He_isMutual_38 rfl nb_1
abbrev rm_AR_isReached : Room := { frames := 1, cells := 0, slots := 0, locals := 24 }
abbrev cd_AR_isReached : Cond := .code y_AR_isReached b_AR_isReached 6 (some .boolean)
def f_AR_isReached (a1 : Int32) (a2 : Int32) (a3 : Int32) (a4 : Int32) (a5 : Int32) (m : jz_M) : Option (Int32) :=
  (f_AR_isMeant a1 a5 m).bind fun v1_ =>
  if v1_ = 0 then
    some 0
  else
    (f_AR_hearingAt a4 m).bind fun v3_ =>
    (f_He_isMutual v3_ a1 a3 a2 m).bind fun v4_ =>
    if v4_ = 0 then
      some 0
    else
      some 1
set_option maxHeartbeats 4000000 in
set_option maxRecDepth 100000 in
theorem c_AR_isReached {Z : cz_Z} (l : Launch) (hI : jz_I (cz_G Z)) {a1 : Int32} {a2 : Int32} {a3 : Int32} {a4 : Int32} {a5 : Int32} {m : jz_M} {r : Int32} (h : f_AR_isReached a1 a2 a3 a4 a5 m = some r) : jz_m l y_AR_isReached cd_AR_isReached rm_AR_isReached (cz_G Z) [.ref (gz_ad (cz_G Z) 0), .int a1, .int a2, .int a3, .int a4, .int a5] m (some (.int r)) m := by
  refine jz_met (own := R_AR) (by decide) rfl hI (Nat.le_of_ble_eq_true rfl) (fun X hX C => ?_)
  subst hX
  show jz_J X 6 (cz_G Z) _ m [(0, .ref (gz_ad (cz_G Z) 0)), (1, .int a1), (2, .int a2), (3, .int a3), (4, .int a4), (5, .int a5)] 0 []
  unfold f_AR_isReached at h
  refine jr_iload_n 0 C d_AR_isReached_0 rfl ?_
  refine jr_iload 1 C d_AR_isReached_1 rfl ?_
  obtain ⟨v1_, ev1_, h⟩ := jz_b h
  refine jr_callS 3 [.int a1, .int a5] C d_AR_isReached_3 (c_AR_isMeant (xz_l X) C.2.2.2.2.2.2.1 ev1_) sz_AR_isMeant tz_AR_isMeant lk_AR_77 (by decide) rfl rfl (Nat.le_of_ble_eq_true rfl) rfl ?_
  refine jr_if_eq 6 28 C d_AR_isReached_6 (by decide) (fun c2_ => ?_) (fun c2_ => ?_)
  · have h := jz_t c2_ h
    refine jr_iconst 28 0 C d_AR_isReached_28 (by decide) ?_
    obtain rfl := Option.some.inj h
    exact jr_zret 29 (v := 0) C d_AR_isReached_29 rfl nb_0
  · have h := jz_f c2_ h
    refine jr_aload_n 9 C d_AR_isReached_9 rfl ?_
    refine jr_iload 10 C d_AR_isReached_10 rfl ?_
    obtain ⟨v3_, ev3_, h⟩ := jz_b h
    refine jr_callV 12 [.int a4] C d_AR_isReached_12 (c_AR_hearingAt (xz_l X) C.2.2.2.2.2.2.1  ev3_) sz_AR_hearingAt tz_AR_hearingAt lk_AR_150 oz_AR rfl (by decide) rfl rfl (Nat.le_of_ble_eq_true rfl) rfl ?_
    refine jr_iload_n 15 C d_AR_isReached_15 rfl ?_
    refine jr_iload_n 16 C d_AR_isReached_16 rfl ?_
    refine jr_iload_n 17 C d_AR_isReached_17 rfl ?_
    obtain ⟨v4_, ev4_, h⟩ := jz_b h
    refine jr_callVN 18 [.int a1, .int a3, .int a2] C d_AR_isReached_18 (c_He_isMutual (xz_l X) C.2.2.2.2.2.2.1 (kr_AR_hearingAt ev3_) ev4_) sz_He_isMutual tz_He_isMutual lk_AR_154 (oz_He (kr_AR_hearingAt ev3_)) rfl (by decide) rfl rfl (Nat.le_of_ble_eq_true rfl) rfl ?_
    refine jr_if_eq 21 28 C d_AR_isReached_21 (by decide) (fun c5_ => ?_) (fun c5_ => ?_)
    · have h := jz_t c5_ h
      refine jr_iconst 28 0 C d_AR_isReached_28 (by decide) ?_
      obtain rfl := Option.some.inj h
      exact jr_zret 29 (v := 0) C d_AR_isReached_29 rfl nb_0
    · have h := jz_f c5_ h
      refine jr_iconst 24 1 C d_AR_isReached_24 (by decide) ?_
      refine jr_goto 25 29 C d_AR_isReached_25 (by decide) ?_
      obtain rfl := Option.some.inj h
      exact jr_zret 29 (v := 1) C d_AR_isReached_29 rfl nb_1
abbrev rm_Ba_isAlive : Room := { frames := 0, cells := 0, slots := 0, locals := 0 }
abbrev cd_Ba_isAlive : Cond := .code y_Ba_isAlive b_Ba_isAlive 2 (some .boolean)
def f_Ba_isAlive (o0 : Nat) (a1 : Int32) (m : jz_M) : Option (Int32) :=
  (jz_ix 42 a1).bind fun j1_ =>
  if (m (o0 + 3) j1_) ≤ 0 then
    some 0
  else
    some 1
set_option maxHeartbeats 4000000 in
set_option maxRecDepth 100000 in
theorem c_Ba_isAlive {Z : cz_Z} (l : Launch) (hI : jz_I (cz_G Z)) {o0 : Nat} {a1 : Int32} {m : jz_M} {r : Int32} (ko0 : kz_Ba o0) (h : f_Ba_isAlive o0 a1 m = some r) : jz_m l y_Ba_isAlive cd_Ba_isAlive rm_Ba_isAlive (cz_G Z) [.ref (gz_ad (cz_G Z) o0), .int a1] m (some (.int r)) m := by
  refine jz_met (own := R_Ba) (by decide) rfl hI (Nat.le_of_ble_eq_true rfl) (fun X hX C => ?_)
  subst hX
  show jz_J X 2 (cz_G Z) _ m [(0, .ref (gz_ad (cz_G Z) o0)), (1, .int a1)] 0 []
  unfold f_Ba_isAlive at h
  refine jr_aload_n 0 C d_Ba_isAlive_0 rfl ?_
  refine gf_Ba_18 1 C d_Ba_isAlive_1 ko0 ?_
  refine jr_iload_n 4 C d_Ba_isAlive_4 rfl ?_
  obtain ⟨j1_, ej1_, h⟩ := jz_b h
  refine jr_iald 5 C d_Ba_isAlive_5 (zk_Ba_lives ko0) ej1_ ?_
  refine jr_if_le 6 13 C d_Ba_isAlive_6 (by decide) (fun c2_ => ?_) (fun c2_ => ?_)
  · have h := jz_t c2_ h
    refine jr_iconst 13 0 C d_Ba_isAlive_13 (by decide) ?_
    obtain rfl := Option.some.inj h
    exact jr_zret 14 (v := 0) C d_Ba_isAlive_14 rfl nb_0
  · have h := jz_f c2_ h
    refine jr_iconst 9 1 C d_Ba_isAlive_9 (by decide) ?_
    refine jr_goto 10 14 C d_Ba_isAlive_10 (by decide) ?_
    obtain rfl := Option.some.inj h
    exact jr_zret 14 (v := 1) C d_Ba_isAlive_14 rfl nb_1
abbrev rm_Ba_orderAgainst : Room := { frames := 1, cells := 0, slots := 0, locals := 21 }
abbrev cd_Ba_orderAgainst : Cond := .code y_Ba_orderAgainst b_Ba_orderAgainst 3 (some .int)
def f_Ba_orderAgainst (o0 : Nat) (o1 : Nat) (a2 : Int32) (m : jz_M) : Option (Int32) :=
  (jz_ix 42 a2).bind fun j1_ =>
  (jz_ix 42 a2).bind fun j2_ =>
  if (m (o0 + 1) j1_) = (m (o1 + 1) j2_) then
    (f_Ba_isAlive o0 a2 m).bind fun v4_ =>
    (f_Ba_isAlive o1 a2 m).bind fun v5_ =>
    if ¬ v4_ = v5_ then
      (f_Ba_isAlive o0 a2 m).bind fun v7_ =>
      if v7_ = 0 then
        some 1
      else
        some (-1)
    else
      some 0
  else
    (jz_ix 42 a2).bind fun j9_ =>
    (jz_ix 42 a2).bind fun j10_ =>
    some ((m (o0 + 1) j9_) - (m (o1 + 1) j10_))
set_option maxHeartbeats 4000000 in
set_option maxRecDepth 100000 in
theorem c_Ba_orderAgainst {Z : cz_Z} (l : Launch) (hI : jz_I (cz_G Z)) {o0 : Nat} {o1 : Nat} {a2 : Int32} {m : jz_M} {r : Int32} (ko0 : kz_Ba o0) (ko1 : kz_Ba o1) (h : f_Ba_orderAgainst o0 o1 a2 m = some r) : jz_m l y_Ba_orderAgainst cd_Ba_orderAgainst rm_Ba_orderAgainst (cz_G Z) [.ref (gz_ad (cz_G Z) o0), .ref (gz_ad (cz_G Z) o1), .int a2] m (some (.int r)) m := by
  refine jz_met (own := R_Ba) (by decide) rfl hI (Nat.le_of_ble_eq_true rfl) (fun X hX C => ?_)
  subst hX
  show jz_J X 3 (cz_G Z) _ m [(0, .ref (gz_ad (cz_G Z) o0)), (1, .ref (gz_ad (cz_G Z) o1)), (2, .int a2)] 0 []
  unfold f_Ba_orderAgainst at h
  refine jr_aload_n 0 C d_Ba_orderAgainst_0 rfl ?_
  refine gf_Ba_9 1 C d_Ba_orderAgainst_1 ko0 ?_
  refine jr_iload_n 4 C d_Ba_orderAgainst_4 rfl ?_
  obtain ⟨j1_, ej1_, h⟩ := jz_b h
  refine jr_iald 5 C d_Ba_orderAgainst_5 (zk_Ba_sequences ko0) ej1_ ?_
  refine jr_aload_n 6 C d_Ba_orderAgainst_6 rfl ?_
  refine gf_Ba_9 7 C d_Ba_orderAgainst_7 ko1 ?_
  refine jr_iload_n 10 C d_Ba_orderAgainst_10 rfl ?_
  obtain ⟨j2_, ej2_, h⟩ := jz_b h
  refine jr_iald 11 C d_Ba_orderAgainst_11 (zk_Ba_sequences ko1) ej2_ ?_
  refine jr_icmp_eq 12 29 C d_Ba_orderAgainst_12 (by decide) (fun c3_ => ?_) (fun c3_ => ?_)
  · have h := jz_t c3_ h
    refine jr_aload_n 29 C d_Ba_orderAgainst_29 rfl ?_
    refine jr_iload_n 30 C d_Ba_orderAgainst_30 rfl ?_
    obtain ⟨v4_, ev4_, h⟩ := jz_b h
    refine jr_callV 31 [.int a2] C d_Ba_orderAgainst_31 (c_Ba_isAlive (xz_l X) C.2.2.2.2.2.2.1 ko0 ev4_) sz_Ba_isAlive tz_Ba_isAlive lk_Ba_51 (oz_Ba ko0) rfl (by decide) rfl rfl (Nat.le_of_ble_eq_true rfl) rfl ?_
    refine jr_aload_n 34 C d_Ba_orderAgainst_34 rfl ?_
    refine jr_iload_n 35 C d_Ba_orderAgainst_35 rfl ?_
    obtain ⟨v5_, ev5_, h⟩ := jz_b h
    refine jr_callV 36 [.int a2] C d_Ba_orderAgainst_36 (c_Ba_isAlive (xz_l X) C.2.2.2.2.2.2.1 ko1 ev5_) sz_Ba_isAlive tz_Ba_isAlive lk_Ba_51 (oz_Ba ko1) rfl (by decide) rfl rfl (Nat.le_of_ble_eq_true rfl) rfl ?_
    refine jr_icmp_ne 39 44 C d_Ba_orderAgainst_39 (by decide) (fun c6_ => ?_) (fun c6_ => ?_)
    · have h := jz_t c6_ h
      refine jr_aload_n 44 C d_Ba_orderAgainst_44 rfl ?_
      refine jr_iload_n 45 C d_Ba_orderAgainst_45 rfl ?_
      obtain ⟨v7_, ev7_, h⟩ := jz_b h
      refine jr_callV 46 [.int a2] C d_Ba_orderAgainst_46 (c_Ba_isAlive (xz_l X) C.2.2.2.2.2.2.1 ko0 ev7_) sz_Ba_isAlive tz_Ba_isAlive lk_Ba_51 (oz_Ba ko0) rfl (by decide) rfl rfl (Nat.le_of_ble_eq_true rfl) rfl ?_
      refine jr_if_eq 49 56 C d_Ba_orderAgainst_49 (by decide) (fun c8_ => ?_) (fun c8_ => ?_)
      · have h := jz_t c8_ h
        refine jr_iconst 56 1 C d_Ba_orderAgainst_56 (by decide) ?_
        obtain rfl := Option.some.inj h
        exact jr_iret 57 (v := 1) C d_Ba_orderAgainst_57 rfl
      · have h := jz_f c8_ h
        refine jr_iconst 52 (-1) C d_Ba_orderAgainst_52 (by decide) ?_
        refine jr_goto 53 57 C d_Ba_orderAgainst_53 (by decide) ?_
        obtain rfl := Option.some.inj h
        exact jr_iret 57 (v := (-1)) C d_Ba_orderAgainst_57 rfl
    · have h := jz_f c6_ h
      refine jr_iconst 42 0 C d_Ba_orderAgainst_42 (by decide) ?_
      obtain rfl := Option.some.inj h
      exact jr_iret 43 (v := 0) C d_Ba_orderAgainst_43 rfl
  · have h := jz_f c3_ h
    refine jr_aload_n 15 C d_Ba_orderAgainst_15 rfl ?_
    refine gf_Ba_9 16 C d_Ba_orderAgainst_16 ko0 ?_
    refine jr_iload_n 19 C d_Ba_orderAgainst_19 rfl ?_
    obtain ⟨j9_, ej9_, h⟩ := jz_b h
    refine jr_iald 20 C d_Ba_orderAgainst_20 (zk_Ba_sequences ko0) ej9_ ?_
    refine jr_aload_n 21 C d_Ba_orderAgainst_21 rfl ?_
    refine gf_Ba_9 22 C d_Ba_orderAgainst_22 ko1 ?_
    refine jr_iload_n 25 C d_Ba_orderAgainst_25 rfl ?_
    obtain ⟨j10_, ej10_, h⟩ := jz_b h
    refine jr_iald 26 C d_Ba_orderAgainst_26 (zk_Ba_sequences ko1) ej10_ ?_
    refine jr_isub 27 C d_Ba_orderAgainst_27 ?_
    obtain rfl := Option.some.inj h
    exact jr_iret 28 (v := ((m (o0 + 1) j9_) - (m (o1 + 1) j10_))) C d_Ba_orderAgainst_28 rfl
abbrev rm_Ba_setDue : Room := { frames := 0, cells := 0, slots := 0, locals := 0 }
abbrev cd_Ba_setDue : Cond := .code y_Ba_setDue b_Ba_setDue 4 none
def f_Ba_setDue (o0 : Nat) (a1 : Int32) (a2 : Int32) (a3 : Int32) (m : jz_M) : Option (jz_M) :=
  if a3 = 0 then
    (jz_ix 42 a1).bind fun j2_ =>
    (jz_ix 42 a1).bind fun j3_ =>
    jz_n (jz_up m (o0 + 9) j3_ ((m (o0 + 9) j2_) &&& (((1 : Int32) <<< (a2 &&& 31)) ^^^ (-1)))) fun m4_ =>
    some m4_
  else
    (jz_ix 42 a1).bind fun j5_ =>
    (jz_ix 42 a1).bind fun j6_ =>
    jz_n (jz_up m (o0 + 9) j6_ ((m (o0 + 9) j5_) ||| ((1 : Int32) <<< (a2 &&& 31)))) fun m7_ =>
    some m7_
set_option maxHeartbeats 4000000 in
set_option maxRecDepth 100000 in
theorem c_Ba_setDue {Z : cz_Z} (l : Launch) (hI : jz_I (cz_G Z)) {o0 : Nat} {a1 : Int32} {a2 : Int32} {a3 : Int32} {m : jz_M} {r : jz_M} (ko0 : kz_Ba o0) (h : f_Ba_setDue o0 a1 a2 a3 m = some r) : jz_m l y_Ba_setDue cd_Ba_setDue rm_Ba_setDue (cz_G Z) [.ref (gz_ad (cz_G Z) o0), .int a1, .int a2, .int a3] m none r := by
  refine jz_met (own := R_Ba) (by decide) rfl hI (Nat.le_of_ble_eq_true rfl) (fun X hX C => ?_)
  subst hX
  show jz_J X 4 (cz_G Z) _ m [(0, .ref (gz_ad (cz_G Z) o0)), (1, .int a1), (2, .int a2), (3, .int a3)] 0 []
  unfold f_Ba_setDue at h
  refine jr_aload_n 0 C d_Ba_setDue_0 rfl ?_
  refine gf_Ba_37 1 C d_Ba_setDue_1 ko0 ?_
  refine jr_iload_n 4 C d_Ba_setDue_4 rfl ?_
  refine jr_iload_n 5 C d_Ba_setDue_5 rfl ?_
  refine jr_if_eq 6 22 C d_Ba_setDue_6 (by decide) (fun c1_ => ?_) (fun c1_ => ?_)
  · have h := jz_t c1_ h
    refine jr_aload_n 22 C d_Ba_setDue_22 rfl ?_
    refine gf_Ba_37 23 C d_Ba_setDue_23 ko0 ?_
    refine jr_iload_n 26 C d_Ba_setDue_26 rfl ?_
    obtain ⟨j2_, ej2_, h⟩ := jz_b h
    refine jr_iald 27 C d_Ba_setDue_27 (zk_Ba_due ko0) ej2_ ?_
    refine jr_iconst 28 1 C d_Ba_setDue_28 (by decide) ?_
    refine jr_iload_n 29 C d_Ba_setDue_29 rfl ?_
    refine jr_ishl 30 C d_Ba_setDue_30 ?_
    refine jr_iconst 31 (-1) C d_Ba_setDue_31 (by decide) ?_
    refine jr_ixor 32 C d_Ba_setDue_32 ?_
    refine jr_iand 33 C d_Ba_setDue_33 ?_
    obtain ⟨j3_, ej3_, h⟩ := jz_b h
    obtain ⟨m4_, em4_, h⟩ := jz_ne h
    refine jr_iast 34 C d_Ba_setDue_34 (zk_Ba_due ko0) ej3_ ?_
    refine jr_mem em4_ ?_
    obtain rfl := Option.some.inj h
    exact jr_vret 35 C d_Ba_setDue_35 rfl
  · have h := jz_f c1_ h
    refine jr_aload_n 9 C d_Ba_setDue_9 rfl ?_
    refine gf_Ba_37 10 C d_Ba_setDue_10 ko0 ?_
    refine jr_iload_n 13 C d_Ba_setDue_13 rfl ?_
    obtain ⟨j5_, ej5_, h⟩ := jz_b h
    refine jr_iald 14 C d_Ba_setDue_14 (zk_Ba_due ko0) ej5_ ?_
    refine jr_iconst 15 1 C d_Ba_setDue_15 (by decide) ?_
    refine jr_iload_n 16 C d_Ba_setDue_16 rfl ?_
    refine jr_ishl 17 C d_Ba_setDue_17 ?_
    refine jr_ior 18 C d_Ba_setDue_18 ?_
    refine jr_goto 19 34 C d_Ba_setDue_19 (by decide) ?_
    obtain ⟨j6_, ej6_, h⟩ := jz_b h
    obtain ⟨m7_, em7_, h⟩ := jz_ne h
    refine jr_iast 34 C d_Ba_setDue_34 (zk_Ba_due ko0) ej6_ ?_
    refine jr_mem em7_ ?_
    obtain rfl := Option.some.inj h
    exact jr_vret 35 C d_Ba_setDue_35 rfl
end
section
abbrev rm_Ba_setAsked : Room := { frames := 0, cells := 0, slots := 0, locals := 0 }
abbrev cd_Ba_setAsked : Cond := .code y_Ba_setAsked b_Ba_setAsked 4 none
def f_Ba_setAsked (o0 : Nat) (a1 : Int32) (a2 : Int32) (a3 : Int32) (m : jz_M) : Option (jz_M) :=
  if a3 = 0 then
    (jz_ix 42 a1).bind fun j2_ =>
    (jz_ix 42 a1).bind fun j3_ =>
    jz_n (jz_up m (o0 + 10) j3_ ((m (o0 + 10) j2_) &&& (((1 : Int32) <<< (a2 &&& 31)) ^^^ (-1)))) fun m4_ =>
    some m4_
  else
    (jz_ix 42 a1).bind fun j5_ =>
    (jz_ix 42 a1).bind fun j6_ =>
    jz_n (jz_up m (o0 + 10) j6_ ((m (o0 + 10) j5_) ||| ((1 : Int32) <<< (a2 &&& 31)))) fun m7_ =>
    some m7_
set_option maxHeartbeats 4000000 in
set_option maxRecDepth 100000 in
theorem c_Ba_setAsked {Z : cz_Z} (l : Launch) (hI : jz_I (cz_G Z)) {o0 : Nat} {a1 : Int32} {a2 : Int32} {a3 : Int32} {m : jz_M} {r : jz_M} (ko0 : kz_Ba o0) (h : f_Ba_setAsked o0 a1 a2 a3 m = some r) : jz_m l y_Ba_setAsked cd_Ba_setAsked rm_Ba_setAsked (cz_G Z) [.ref (gz_ad (cz_G Z) o0), .int a1, .int a2, .int a3] m none r := by
  refine jz_met (own := R_Ba) (by decide) rfl hI (Nat.le_of_ble_eq_true rfl) (fun X hX C => ?_)
  subst hX
  show jz_J X 4 (cz_G Z) _ m [(0, .ref (gz_ad (cz_G Z) o0)), (1, .int a1), (2, .int a2), (3, .int a3)] 0 []
  unfold f_Ba_setAsked at h
  refine jr_aload_n 0 C d_Ba_setAsked_0 rfl ?_
  refine gf_Ba_40 1 C d_Ba_setAsked_1 ko0 ?_
  refine jr_iload_n 4 C d_Ba_setAsked_4 rfl ?_
  refine jr_iload_n 5 C d_Ba_setAsked_5 rfl ?_
  refine jr_if_eq 6 22 C d_Ba_setAsked_6 (by decide) (fun c1_ => ?_) (fun c1_ => ?_)
  · have h := jz_t c1_ h
    refine jr_aload_n 22 C d_Ba_setAsked_22 rfl ?_
    refine gf_Ba_40 23 C d_Ba_setAsked_23 ko0 ?_
    refine jr_iload_n 26 C d_Ba_setAsked_26 rfl ?_
    obtain ⟨j2_, ej2_, h⟩ := jz_b h
    refine jr_iald 27 C d_Ba_setAsked_27 (zk_Ba_asked ko0) ej2_ ?_
    refine jr_iconst 28 1 C d_Ba_setAsked_28 (by decide) ?_
    refine jr_iload_n 29 C d_Ba_setAsked_29 rfl ?_
    refine jr_ishl 30 C d_Ba_setAsked_30 ?_
    refine jr_iconst 31 (-1) C d_Ba_setAsked_31 (by decide) ?_
    refine jr_ixor 32 C d_Ba_setAsked_32 ?_
    refine jr_iand 33 C d_Ba_setAsked_33 ?_
    obtain ⟨j3_, ej3_, h⟩ := jz_b h
    obtain ⟨m4_, em4_, h⟩ := jz_ne h
    refine jr_iast 34 C d_Ba_setAsked_34 (zk_Ba_asked ko0) ej3_ ?_
    refine jr_mem em4_ ?_
    obtain rfl := Option.some.inj h
    exact jr_vret 35 C d_Ba_setAsked_35 rfl
  · have h := jz_f c1_ h
    refine jr_aload_n 9 C d_Ba_setAsked_9 rfl ?_
    refine gf_Ba_40 10 C d_Ba_setAsked_10 ko0 ?_
    refine jr_iload_n 13 C d_Ba_setAsked_13 rfl ?_
    obtain ⟨j5_, ej5_, h⟩ := jz_b h
    refine jr_iald 14 C d_Ba_setAsked_14 (zk_Ba_asked ko0) ej5_ ?_
    refine jr_iconst 15 1 C d_Ba_setAsked_15 (by decide) ?_
    refine jr_iload_n 16 C d_Ba_setAsked_16 rfl ?_
    refine jr_ishl 17 C d_Ba_setAsked_17 ?_
    refine jr_ior 18 C d_Ba_setAsked_18 ?_
    refine jr_goto 19 34 C d_Ba_setAsked_19 (by decide) ?_
    obtain ⟨j6_, ej6_, h⟩ := jz_b h
    obtain ⟨m7_, em7_, h⟩ := jz_ne h
    refine jr_iast 34 C d_Ba_setAsked_34 (zk_Ba_asked ko0) ej6_ ?_
    refine jr_mem em7_ ?_
    obtain rfl := Option.some.inj h
    exact jr_vret 35 C d_Ba_setAsked_35 rfl
abbrev rm_Ba_takeLinks : Room := { frames := 0, cells := 0, slots := 0, locals := 0 }
abbrev cd_Ba_takeLinks : Cond := .code y_Ba_takeLinks b_Ba_takeLinks 6 none
def f_Ba_takeLinks_11 (n2 : Nat) : Nat → Nat → Int32 → Nat → Int32 → Int32 → Int32 → jz_M → Option (jz_M)
  | 0, _, _, _, _, _, _, _ => none
  | fu + 1, o0, x1, o2, x3, x4, x5, m =>
    if x4 ≤ x5 then
      some m
    else
      (jz_ix n2 (x3 + x5)).bind fun j2_ =>
      (jz_ix 420 ((x1 * 10) + x5)).bind fun j3_ =>
      jz_n (jz_up m (o0 + 8) j3_ (m o2 j2_)) fun m4_ =>
      jz_n (x5 + 1) fun x5_ =>
      f_Ba_takeLinks_11 n2 fu o0 x1 o2 x3 x4 x5_ m4_
set_option maxHeartbeats 4000000 in
set_option maxRecDepth 100000 in
theorem t_Ba_takeLinks_11 {Z : cz_Z} {X : jz_X} {r : jz_M} {n2 : Nat} (C : jz_C X 6 b_Ba_takeLinks R_Ba none rm_Ba_takeLinks (cz_G Z)) : ∀ (fu : Nat) (o0 : Nat) (x1 : Int32) (o2 : Nat) (x3 : Int32) (x4 : Int32) (x5 : Int32) (m : jz_M) , kz_Ba o0 → iz_I (cz_G Z) o2 n2 → f_Ba_takeLinks_11 n2 fu o0 x1 o2 x3 x4 x5 m = some r → jz_J X 6 (cz_G Z) (jz_q X (cz_G Z) none r) m [(0, .ref (gz_ad (cz_G Z) o0)), (1, .int x1), (2, .ref (gz_ad (cz_G Z) o2)), (3, .int x3), (4, .int x4), (5, .int x5)] 11 [] := by
  intro fu
  induction fu with
  | zero => intro o0 x1 o2 x3 x4 x5 m k0 k2 h; cases h
  | succ fu ih =>
    intro o0 x1 o2 x3 x4 x5 m k0 k2 h
    rw [f_Ba_takeLinks_11] at h
    refine jr_iload 11 C d_Ba_takeLinks_11 rfl ?_
    refine jr_iload 13 C d_Ba_takeLinks_13 rfl ?_
    refine jr_icmp_ge 15 42 C d_Ba_takeLinks_15 (by decide) (fun c1_ => ?_) (fun c1_ => ?_)
    · have h := jz_t c1_ h
      obtain rfl := Option.some.inj h
      exact jr_vret 42 C d_Ba_takeLinks_42 rfl
    · have h := jz_f c1_ h
      refine jr_aload_n 18 C d_Ba_takeLinks_18 rfl ?_
      refine gf_Ba_34 19 C d_Ba_takeLinks_19 k0 ?_
      refine jr_iload_n 22 C d_Ba_takeLinks_22 rfl ?_
      refine jr_bipush 23 10 C d_Ba_takeLinks_23 (by decide) ?_
      refine jr_imul 25 C d_Ba_takeLinks_25 ?_
      refine jr_iload 26 C d_Ba_takeLinks_26 rfl ?_
      refine jr_iadd 28 C d_Ba_takeLinks_28 ?_
      refine jr_aload_n 29 C d_Ba_takeLinks_29 rfl ?_
      refine jr_iload_n 30 C d_Ba_takeLinks_30 rfl ?_
      refine jr_iload 31 C d_Ba_takeLinks_31 rfl ?_
      refine jr_iadd 33 C d_Ba_takeLinks_33 ?_
      obtain ⟨j2_, ej2_, h⟩ := jz_b h
      refine jr_iald 34 C d_Ba_takeLinks_34 k2 ej2_ ?_
      obtain ⟨j3_, ej3_, h⟩ := jz_b h
      obtain ⟨m4_, em4_, h⟩ := jz_ne h
      refine jr_iast 35 C d_Ba_takeLinks_35 (zk_Ba_links k0) ej3_ ?_
      refine jr_mem em4_ ?_
      obtain ⟨x5_, ex5_, h⟩ := jz_ne h
      refine jr_iinc 36 [(0, .ref (gz_ad (cz_G Z) o0)), (1, .int x1), (2, .ref (gz_ad (cz_G Z) o2)), (3, .int x3), (4, .int x4), (5, .int x5_)] C d_Ba_takeLinks_36 rfl (by decide) rfl (by rw [ex5_]; rfl) rfl ?_
      refine jr_goto 39 11 C d_Ba_takeLinks_39 (by decide) ?_
      refine jr_sub [0, 1, 2, 3, 4, 5] rfl ?_
      exact ih o0 x1 o2 x3 x4 x5_ m4_ k0 k2 h
def f_Ba_takeLinks (o0 : Nat) (a1 : Int32) (o2 : Nat) (n2 : Nat) (a3 : Int32) (a4 : Int32) (m : jz_M) : Option (jz_M) :=
  (jz_ix 42 a1).bind fun j1_ =>
  jz_n (jz_up m (o0 + 7) j1_ a4) fun m2_ =>
  f_Ba_takeLinks_11 n2 1000 o0 a1 o2 a3 a4 0 m2_
set_option maxHeartbeats 4000000 in
set_option maxRecDepth 100000 in
theorem c_Ba_takeLinks {Z : cz_Z} (l : Launch) (hI : jz_I (cz_G Z)) {o0 : Nat} {a1 : Int32} {o2 : Nat} {n2 : Nat} {a3 : Int32} {a4 : Int32} {m : jz_M} {r : jz_M} (ko0 : kz_Ba o0) (ko2 : iz_I (cz_G Z) o2 n2) (h : f_Ba_takeLinks o0 a1 o2 n2 a3 a4 m = some r) : jz_m l y_Ba_takeLinks cd_Ba_takeLinks rm_Ba_takeLinks (cz_G Z) [.ref (gz_ad (cz_G Z) o0), .int a1, .ref (gz_ad (cz_G Z) o2), .int a3, .int a4] m none r := by
  refine jz_met (own := R_Ba) (by decide) rfl hI (Nat.le_of_ble_eq_true rfl) (fun X hX C => ?_)
  subst hX
  show jz_J X 6 (cz_G Z) _ m [(0, .ref (gz_ad (cz_G Z) o0)), (1, .int a1), (2, .ref (gz_ad (cz_G Z) o2)), (3, .int a3), (4, .int a4)] 0 []
  unfold f_Ba_takeLinks at h
  refine jr_aload_n 0 C d_Ba_takeLinks_0 rfl ?_
  refine gf_Ba_31 1 C d_Ba_takeLinks_1 ko0 ?_
  refine jr_iload_n 4 C d_Ba_takeLinks_4 rfl ?_
  refine jr_iload 5 C d_Ba_takeLinks_5 rfl ?_
  obtain ⟨j1_, ej1_, h⟩ := jz_b h
  obtain ⟨m2_, em2_, h⟩ := jz_ne h
  refine jr_iast 7 C d_Ba_takeLinks_7 (zk_Ba_linkCounts ko0) ej1_ ?_
  refine jr_mem em2_ ?_
  refine jr_iconst 8 0 C d_Ba_takeLinks_8 (by decide) ?_
  refine jr_istore 9 [(0, .ref (gz_ad (cz_G Z) o0)), (1, .int a1), (2, .ref (gz_ad (cz_G Z) o2)), (3, .int a3), (4, .int a4), (5, .int 0)] C d_Ba_takeLinks_9 rfl (by decide) rfl ?_
  refine jr_sub [0, 1, 2, 3, 4, 5] rfl ?_
  exact t_Ba_takeLinks_11 C 1000 o0 a1 o2 a3 a4 0 m2_ ko0 ko2 h
abbrev rm_Ba_copyFrom : Room := { frames := 1, cells := 0, slots := 0, locals := 25 }
abbrev cd_Ba_copyFrom : Cond := .code y_Ba_copyFrom b_Ba_copyFrom 3 none
def f_Ba_copyFrom (o0 : Nat) (o1 : Nat) (a2 : Int32) (m : jz_M) : Option (jz_M) :=
  (jz_ix 42 a2).bind fun j1_ =>
  (jz_ix 42 a2).bind fun j2_ =>
  jz_n (jz_up m (o0 + 1) j2_ (m (o1 + 1) j1_)) fun m3_ =>
  (jz_ix 42 a2).bind fun j4_ =>
  (jz_ix 42 a2).bind fun j5_ =>
  jz_n (jz_max (m3_ (o0 + 2) j4_) (m3_ (o0 + 1) j5_)) fun x6_ =>
  (jz_ix 42 a2).bind fun j7_ =>
  jz_n (jz_up m3_ (o0 + 2) j7_ x6_) fun m8_ =>
  (jz_ix 42 a2).bind fun j9_ =>
  (jz_ix 42 a2).bind fun j10_ =>
  jz_n (jz_up m8_ (o0 + 3) j10_ (m8_ (o1 + 3) j9_)) fun m11_ =>
  (jz_ix 42 a2).bind fun j12_ =>
  jz_n (jz_up m11_ (o0 + 4) j12_ 0) fun m13_ =>
  (jz_ix 42 a2).bind fun j14_ =>
  (jz_ix 42 a2).bind fun j15_ =>
  jz_n (jz_up m13_ (o0 + 5) j15_ (vp_nar .boolean (m13_ (o1 + 5) j14_))) fun m16_ =>
  (jz_ix 42 a2).bind fun j17_ =>
  (jz_ix 42 a2).bind fun j18_ =>
  jz_n (jz_up m16_ (o0 + 6) j18_ (m16_ (o1 + 6) j17_)) fun m19_ =>
  (jz_ix 42 a2).bind fun j20_ =>
  (f_Ba_takeLinks o0 a2 (o1 + 8) 420 (a2 * 10) (m19_ (o1 + 7) j20_) m19_).bind fun v21_ =>
  some v21_
set_option maxHeartbeats 4000000 in
set_option maxRecDepth 100000 in
theorem c_Ba_copyFrom {Z : cz_Z} (l : Launch) (hI : jz_I (cz_G Z)) {o0 : Nat} {o1 : Nat} {a2 : Int32} {m : jz_M} {r : jz_M} (ko0 : kz_Ba o0) (ko1 : kz_Ba o1) (h : f_Ba_copyFrom o0 o1 a2 m = some r) : jz_m l y_Ba_copyFrom cd_Ba_copyFrom rm_Ba_copyFrom (cz_G Z) [.ref (gz_ad (cz_G Z) o0), .ref (gz_ad (cz_G Z) o1), .int a2] m none r := by
  refine jz_met (own := R_Ba) (by decide) rfl hI (Nat.le_of_ble_eq_true rfl) (fun X hX C => ?_)
  subst hX
  show jz_J X 3 (cz_G Z) _ m [(0, .ref (gz_ad (cz_G Z) o0)), (1, .ref (gz_ad (cz_G Z) o1)), (2, .int a2)] 0 []
  unfold f_Ba_copyFrom at h
  refine jr_aload_n 0 C d_Ba_copyFrom_0 rfl ?_
  refine gf_Ba_9 1 C d_Ba_copyFrom_1 ko0 ?_
  refine jr_iload_n 4 C d_Ba_copyFrom_4 rfl ?_
  refine jr_aload_n 5 C d_Ba_copyFrom_5 rfl ?_
  refine gf_Ba_9 6 C d_Ba_copyFrom_6 ko1 ?_
  refine jr_iload_n 9 C d_Ba_copyFrom_9 rfl ?_
  obtain ⟨j1_, ej1_, h⟩ := jz_b h
  refine jr_iald 10 C d_Ba_copyFrom_10 (zk_Ba_sequences ko1) ej1_ ?_
  obtain ⟨j2_, ej2_, h⟩ := jz_b h
  obtain ⟨m3_, em3_, h⟩ := jz_ne h
  refine jr_iast 11 C d_Ba_copyFrom_11 (zk_Ba_sequences ko0) ej2_ ?_
  refine jr_mem em3_ ?_
  refine jr_aload_n 12 C d_Ba_copyFrom_12 rfl ?_
  refine gf_Ba_15 13 C d_Ba_copyFrom_13 ko0 ?_
  refine jr_iload_n 16 C d_Ba_copyFrom_16 rfl ?_
  refine jr_aload_n 17 C d_Ba_copyFrom_17 rfl ?_
  refine gf_Ba_15 18 C d_Ba_copyFrom_18 ko0 ?_
  refine jr_iload_n 21 C d_Ba_copyFrom_21 rfl ?_
  obtain ⟨j4_, ej4_, h⟩ := jz_b h
  refine jr_iald 22 C d_Ba_copyFrom_22 (zk_Ba_greatest ko0) ej4_ ?_
  refine jr_aload_n 23 C d_Ba_copyFrom_23 rfl ?_
  refine gf_Ba_9 24 C d_Ba_copyFrom_24 ko0 ?_
  refine jr_iload_n 27 C d_Ba_copyFrom_27 rfl ?_
  obtain ⟨j5_, ej5_, h⟩ := jz_b h
  refine jr_iald 28 C d_Ba_copyFrom_28 (zk_Ba_sequences ko0) ej5_ ?_
  obtain ⟨x6_, ex6_, h⟩ := jz_ne h
  refine mx_Ba_87 29 C d_Ba_copyFrom_29 (by decide) (Nat.le_of_ble_eq_true rfl) ?_
  refine jr_top ex6_ ?_
  obtain ⟨j7_, ej7_, h⟩ := jz_b h
  obtain ⟨m8_, em8_, h⟩ := jz_ne h
  refine jr_iast 32 C d_Ba_copyFrom_32 (zk_Ba_greatest ko0) ej7_ ?_
  refine jr_mem em8_ ?_
  refine jr_aload_n 33 C d_Ba_copyFrom_33 rfl ?_
  refine gf_Ba_18 34 C d_Ba_copyFrom_34 ko0 ?_
  refine jr_iload_n 37 C d_Ba_copyFrom_37 rfl ?_
  refine jr_aload_n 38 C d_Ba_copyFrom_38 rfl ?_
  refine gf_Ba_18 39 C d_Ba_copyFrom_39 ko1 ?_
  refine jr_iload_n 42 C d_Ba_copyFrom_42 rfl ?_
  obtain ⟨j9_, ej9_, h⟩ := jz_b h
  refine jr_iald 43 C d_Ba_copyFrom_43 (zk_Ba_lives ko1) ej9_ ?_
  obtain ⟨j10_, ej10_, h⟩ := jz_b h
  obtain ⟨m11_, em11_, h⟩ := jz_ne h
  refine jr_iast 44 C d_Ba_copyFrom_44 (zk_Ba_lives ko0) ej10_ ?_
  refine jr_mem em11_ ?_
  refine jr_aload_n 45 C d_Ba_copyFrom_45 rfl ?_
  refine gf_Ba_21 46 C d_Ba_copyFrom_46 ko0 ?_
  refine jr_iload_n 49 C d_Ba_copyFrom_49 rfl ?_
  refine jr_iconst 50 0 C d_Ba_copyFrom_50 (by decide) ?_
  obtain ⟨j12_, ej12_, h⟩ := jz_b h
  obtain ⟨m13_, em13_, h⟩ := jz_ne h
  refine jr_iast 51 C d_Ba_copyFrom_51 (zk_Ba_ticksAtRest ko0) ej12_ ?_
  refine jr_mem em13_ ?_
  refine jr_aload_n 52 C d_Ba_copyFrom_52 rfl ?_
  refine gf_Ba_24 53 C d_Ba_copyFrom_53 ko0 ?_
  refine jr_iload_n 56 C d_Ba_copyFrom_56 rfl ?_
  refine jr_aload_n 57 C d_Ba_copyFrom_57 rfl ?_
  refine gf_Ba_24 58 C d_Ba_copyFrom_58 ko1 ?_
  refine jr_iload_n 61 C d_Ba_copyFrom_61 rfl ?_
  obtain ⟨j14_, ej14_, h⟩ := jz_b h
  refine jr_zald 62 C d_Ba_copyFrom_62 (zk_Ba_exits ko1) ej14_ ?_
  obtain ⟨j15_, ej15_, h⟩ := jz_b h
  obtain ⟨m16_, em16_, h⟩ := jz_ne h
  refine jr_zast 63 C d_Ba_copyFrom_63 (zk_Ba_exits ko0) ej15_ ?_
  refine jr_mem em16_ ?_
  refine jr_aload_n 64 C d_Ba_copyFrom_64 rfl ?_
  refine gf_Ba_28 65 C d_Ba_copyFrom_65 ko0 ?_
  refine jr_iload_n 68 C d_Ba_copyFrom_68 rfl ?_
  refine jr_aload_n 69 C d_Ba_copyFrom_69 rfl ?_
  refine gf_Ba_28 70 C d_Ba_copyFrom_70 ko1 ?_
  refine jr_iload_n 73 C d_Ba_copyFrom_73 rfl ?_
  obtain ⟨j17_, ej17_, h⟩ := jz_b h
  refine jr_iald 74 C d_Ba_copyFrom_74 (zk_Ba_areas ko1) ej17_ ?_
  obtain ⟨j18_, ej18_, h⟩ := jz_b h
  obtain ⟨m19_, em19_, h⟩ := jz_ne h
  refine jr_iast 75 C d_Ba_copyFrom_75 (zk_Ba_areas ko0) ej18_ ?_
  refine jr_mem em19_ ?_
  refine jr_aload_n 76 C d_Ba_copyFrom_76 rfl ?_
  refine jr_iload_n 77 C d_Ba_copyFrom_77 rfl ?_
  refine jr_aload_n 78 C d_Ba_copyFrom_78 rfl ?_
  refine gf_Ba_34 79 C d_Ba_copyFrom_79 ko1 ?_
  refine jr_iload_n 82 C d_Ba_copyFrom_82 rfl ?_
  refine jr_bipush 83 10 C d_Ba_copyFrom_83 (by decide) ?_
  refine jr_imul 85 C d_Ba_copyFrom_85 ?_
  refine jr_aload_n 86 C d_Ba_copyFrom_86 rfl ?_
  refine gf_Ba_31 87 C d_Ba_copyFrom_87 ko1 ?_
  refine jr_iload_n 90 C d_Ba_copyFrom_90 rfl ?_
  obtain ⟨j20_, ej20_, h⟩ := jz_b h
  refine jr_iald 91 C d_Ba_copyFrom_91 (zk_Ba_linkCounts ko1) ej20_ ?_
  obtain ⟨v21_, ev21_, h⟩ := jz_b h
  refine jr_callV 92 [.int a2, .ref (gz_ad (cz_G Z) (o1 + 8)), .int (a2 * 10), .int (m19_ (o1 + 7) j20_)] C d_Ba_copyFrom_92 (c_Ba_takeLinks (xz_l X) C.2.2.2.2.2.2.1 ko0 (zk_Ba_links ko1) ev21_) sz_Ba_takeLinks tz_Ba_takeLinks lk_Ba_83 (oz_Ba ko0) rfl (by decide) rfl rfl (Nat.le_of_ble_eq_true rfl) rfl ?_
  obtain rfl := Option.some.inj h
  exact jr_vret 95 C d_Ba_copyFrom_95 rfl
abbrev rm_AR_routerOf : Room := { frames := 0, cells := 0, slots := 0, locals := 0 }
abbrev cd_AR_routerOf : Cond := .code y_AR_routerOf b_AR_routerOf 1 (some .int)
def f_AR_routerOf (a0 : Int32) (m : jz_M) : Option (Int32) :=
  some (a0 / 7)
set_option maxHeartbeats 4000000 in
set_option maxRecDepth 100000 in
theorem c_AR_routerOf {Z : cz_Z} (l : Launch) (hI : jz_I (cz_G Z)) {a0 : Int32} {m : jz_M} {r : Int32} (h : f_AR_routerOf a0 m = some r) : jz_m l y_AR_routerOf cd_AR_routerOf rm_AR_routerOf (cz_G Z) [.int a0] m (some (.int r)) m := by
  refine jz_met (own := R_AR) (by decide) rfl hI (Nat.le_of_ble_eq_true rfl) (fun X hX C => ?_)
  subst hX
  show jz_J X 1 (cz_G Z) _ m [(0, .int a0)] 0 []
  unfold f_AR_routerOf at h
  refine jr_iload_n 0 C d_AR_routerOf_0 rfl ?_
  refine jr_bipush 1 7 C d_AR_routerOf_1 (by decide) ?_
  refine jr_idiv 3 C d_AR_routerOf_3 (by decide) ?_
  obtain rfl := Option.some.inj h
  exact jr_iret 4 (v := (a0 / 7)) C d_AR_routerOf_4 rfl
abbrev rm_AR_partOf : Room := { frames := 0, cells := 0, slots := 0, locals := 0 }
abbrev cd_AR_partOf : Cond := .code y_AR_partOf b_AR_partOf 1 (some .int)
def f_AR_partOf (a0 : Int32) (m : jz_M) : Option (Int32) :=
  some (a0 - a0 / 7 * 7)
set_option maxHeartbeats 4000000 in
set_option maxRecDepth 100000 in
theorem c_AR_partOf {Z : cz_Z} (l : Launch) (hI : jz_I (cz_G Z)) {a0 : Int32} {m : jz_M} {r : Int32} (h : f_AR_partOf a0 m = some r) : jz_m l y_AR_partOf cd_AR_partOf rm_AR_partOf (cz_G Z) [.int a0] m (some (.int r)) m := by
  refine jz_met (own := R_AR) (by decide) rfl hI (Nat.le_of_ble_eq_true rfl) (fun X hX C => ?_)
  subst hX
  show jz_J X 1 (cz_G Z) _ m [(0, .int a0)] 0 []
  unfold f_AR_partOf at h
  refine jr_iload_n 0 C d_AR_partOf_0 rfl ?_
  refine jr_bipush 1 7 C d_AR_partOf_1 (by decide) ?_
  refine jr_irem 3 C d_AR_partOf_3 (by decide) ?_
  obtain rfl := Option.some.inj h
  exact jr_iret 4 (v := (a0 - a0 / 7 * 7)) C d_AR_partOf_4 rfl
abbrev rm_Dr_begin : Room := { frames := 0, cells := 0, slots := 0, locals := 0 }
abbrev cd_Dr_begin : Cond := .code y_Dr_begin b_Dr_begin 2 none
def f_Dr_begin (a1 : Int32) (m : jz_M) : Option (jz_M) :=
  jz_n (jz_up m 146 0 0) fun m1_ =>
  jz_n (jz_up m1_ 146 1 a1) fun m2_ =>
  jz_n (jz_up m2_ 146 2 0) fun m3_ =>
  some m3_
set_option maxHeartbeats 4000000 in
set_option maxRecDepth 100000 in
theorem c_Dr_begin {Z : cz_Z} (l : Launch) (hI : jz_I (cz_G Z)) {a1 : Int32} {m : jz_M} {r : jz_M} (h : f_Dr_begin a1 m = some r) : jz_m l y_Dr_begin cd_Dr_begin rm_Dr_begin (cz_G Z) [.ref (gz_ad (cz_G Z) 146), .int a1] m none r := by
  refine jz_met (own := R_Dr) (by decide) rfl hI (Nat.le_of_ble_eq_true rfl) (fun X hX C => ?_)
  subst hX
  show jz_J X 2 (cz_G Z) _ m [(0, .ref (gz_ad (cz_G Z) 146)), (1, .int a1)] 0 []
  unfold f_Dr_begin at h
  refine jr_aload_n 0 C d_Dr_begin_0 rfl ?_
  refine jr_iconst 1 0 C d_Dr_begin_1 (by decide) ?_
  obtain ⟨m1_, em1_, h⟩ := jz_ne h
  refine pf_Dr_15 2 C d_Dr_begin_2 ?_
  refine jr_mem em1_ ?_
  refine jr_aload_n 5 C d_Dr_begin_5 rfl ?_
  refine jr_iload_n 6 C d_Dr_begin_6 rfl ?_
  obtain ⟨m2_, em2_, h⟩ := jz_ne h
  refine pf_Dr_19 7 C d_Dr_begin_7 ?_
  refine jr_mem em2_ ?_
  refine jr_aload_n 10 C d_Dr_begin_10 rfl ?_
  refine jr_iconst 11 0 C d_Dr_begin_11 (by decide) ?_
  obtain ⟨m3_, em3_, h⟩ := jz_ne h
  refine pf_Dr_22 12 C d_Dr_begin_12 ⟨rfl, rfl⟩ ?_
  refine jr_mem em3_ ?_
  obtain rfl := Option.some.inj h
  exact jr_vret 15 C d_Dr_begin_15 rfl
abbrev rm_AR_hasLevelTwoNeighbourElsewhere : Room := { frames := 1, cells := 0, slots := 0, locals := 24 }
abbrev cd_AR_hasLevelTwoNeighbourElsewhere : Cond := .code y_AR_hasLevelTwoNeighbourElsewhere b_AR_hasLevelTwoNeighbourElsewhere 4 (some .boolean)
def f_AR_hasLevelTwoNeighbourElsewhere_10 (m : jz_M) (k2 : Int32 → Int32 → Option (Int32)) : Nat → Int32 → Int32 → Int32 → Option (Int32)
  | 0, _, _, _ => none
  | fu + 1, x1, x2, x3 =>
    if 6 ≤ x3 then
      jz_n (x2 + 1) fun x2_ =>
      k2 x1 x2_
    else
      (jz_ix 6 x3).bind fun j3_ =>
      (jz_ix 6 x1).bind fun j4_ =>
      if (m 1 j3_) = (m 1 j4_) then
        jz_n (x3 + 1) fun x6_ =>
        f_AR_hasLevelTwoNeighbourElsewhere_10 m k2 fu x1 x2 x6_
      else
        (f_AR_hearingAt 2 m).bind fun v7_ =>
        (f_He_isMutual v7_ x1 x2 x3 m).bind fun v8_ =>
        if v8_ = 0 then
          jz_n (x3 + 1) fun x10_ =>
          f_AR_hasLevelTwoNeighbourElsewhere_10 m k2 fu x1 x2 x10_
        else
          some 1
set_option maxHeartbeats 4000000 in
set_option maxRecDepth 100000 in
theorem t_AR_hasLevelTwoNeighbourElsewhere_10 {Z : cz_Z} {X : jz_X} {m : jz_M} {r : Int32} (C : jz_C X 4 b_AR_hasLevelTwoNeighbourElsewhere R_AR (some .boolean) rm_AR_hasLevelTwoNeighbourElsewhere (cz_G Z)) (k2 : Int32 → Int32 → Option (Int32)) (hk2 : ∀ (x1 : Int32) (x2 : Int32), k2 x1 x2 = some r → jz_J X 4 (cz_G Z) (jz_q X (cz_G Z) (some (.int r)) m) m [(0, .ref (gz_ad (cz_G Z) 0)), (1, .int x1), (2, .int x2)] 2 []) : ∀ (fu : Nat) (x1 : Int32) (x2 : Int32) (x3 : Int32) , f_AR_hasLevelTwoNeighbourElsewhere_10 m k2 fu x1 x2 x3 = some r → jz_J X 4 (cz_G Z) (jz_q X (cz_G Z) (some (.int r)) m) m [(0, .ref (gz_ad (cz_G Z) 0)), (1, .int x1), (2, .int x2), (3, .int x3)] 10 [] := by
  intro fu
  induction fu with
  | zero => intro x1 x2 x3 h; cases h
  | succ fu ih =>
    intro x1 x2 x3 h
    rw [f_AR_hasLevelTwoNeighbourElsewhere_10] at h
    refine jr_iload_n 10 C d_AR_hasLevelTwoNeighbourElsewhere_10 rfl ?_
    refine jr_bipush 11 6 C d_AR_hasLevelTwoNeighbourElsewhere_11 (by decide) ?_
    refine jr_icmp_ge 13 53 C d_AR_hasLevelTwoNeighbourElsewhere_13 (by decide) (fun c1_ => ?_) (fun c1_ => ?_)
    · have h := jz_t c1_ h
      obtain ⟨x2_, ex2_, h⟩ := jz_ne h
      refine jr_iinc 53 [(0, .ref (gz_ad (cz_G Z) 0)), (1, .int x1), (2, .int x2_), (3, .int x3)] C d_AR_hasLevelTwoNeighbourElsewhere_53 rfl (by decide) rfl (by rw [ex2_]; rfl) rfl ?_
      refine jr_goto 56 2 C d_AR_hasLevelTwoNeighbourElsewhere_56 (by decide) ?_
      refine jr_sub [0, 1, 2] rfl ?_
      exact hk2 x1 x2_  h
    · have h := jz_f c1_ h
      refine jr_aload_n 16 C d_AR_hasLevelTwoNeighbourElsewhere_16 rfl ?_
      refine gf_AR_9 17 C d_AR_hasLevelTwoNeighbourElsewhere_17 ?_
      refine jr_iload_n 20 C d_AR_hasLevelTwoNeighbourElsewhere_20 rfl ?_
      obtain ⟨j3_, ej3_, h⟩ := jz_b h
      refine jr_iald 21 C d_AR_hasLevelTwoNeighbourElsewhere_21 zk_AR_areas ej3_ ?_
      refine jr_aload_n 22 C d_AR_hasLevelTwoNeighbourElsewhere_22 rfl ?_
      refine gf_AR_9 23 C d_AR_hasLevelTwoNeighbourElsewhere_23 ?_
      refine jr_iload_n 26 C d_AR_hasLevelTwoNeighbourElsewhere_26 rfl ?_
      obtain ⟨j4_, ej4_, h⟩ := jz_b h
      refine jr_iald 27 C d_AR_hasLevelTwoNeighbourElsewhere_27 zk_AR_areas ej4_ ?_
      refine jr_icmp_eq 28 47 C d_AR_hasLevelTwoNeighbourElsewhere_28 (by decide) (fun c5_ => ?_) (fun c5_ => ?_)
      · have h := jz_t c5_ h
        obtain ⟨x6_, ex6_, h⟩ := jz_ne h
        refine jr_iinc 47 [(0, .ref (gz_ad (cz_G Z) 0)), (1, .int x1), (2, .int x2), (3, .int x6_)] C d_AR_hasLevelTwoNeighbourElsewhere_47 rfl (by decide) rfl (by rw [ex6_]; rfl) rfl ?_
        refine jr_goto 50 10 C d_AR_hasLevelTwoNeighbourElsewhere_50 (by decide) ?_
        refine jr_sub [0, 1, 2, 3] rfl ?_
        exact ih x1 x2 x6_  h
      · have h := jz_f c5_ h
        refine jr_aload_n 31 C d_AR_hasLevelTwoNeighbourElsewhere_31 rfl ?_
        refine jr_iconst 32 2 C d_AR_hasLevelTwoNeighbourElsewhere_32 (by decide) ?_
        obtain ⟨v7_, ev7_, h⟩ := jz_b h
        refine jr_callV 33 [.int 2] C d_AR_hasLevelTwoNeighbourElsewhere_33 (c_AR_hearingAt (xz_l X) C.2.2.2.2.2.2.1  ev7_) sz_AR_hearingAt tz_AR_hearingAt lk_AR_150 oz_AR rfl (by decide) rfl rfl (Nat.le_of_ble_eq_true rfl) rfl ?_
        refine jr_iload_n 36 C d_AR_hasLevelTwoNeighbourElsewhere_36 rfl ?_
        refine jr_iload_n 37 C d_AR_hasLevelTwoNeighbourElsewhere_37 rfl ?_
        refine jr_iload_n 38 C d_AR_hasLevelTwoNeighbourElsewhere_38 rfl ?_
        obtain ⟨v8_, ev8_, h⟩ := jz_b h
        refine jr_callVN 39 [.int x1, .int x2, .int x3] C d_AR_hasLevelTwoNeighbourElsewhere_39 (c_He_isMutual (xz_l X) C.2.2.2.2.2.2.1 (kr_AR_hearingAt ev7_) ev8_) sz_He_isMutual tz_He_isMutual lk_AR_154 (oz_He (kr_AR_hearingAt ev7_)) rfl (by decide) rfl rfl (Nat.le_of_ble_eq_true rfl) rfl ?_
        refine jr_if_eq 42 47 C d_AR_hasLevelTwoNeighbourElsewhere_42 (by decide) (fun c9_ => ?_) (fun c9_ => ?_)
        · have h := jz_t c9_ h
          obtain ⟨x10_, ex10_, h⟩ := jz_ne h
          refine jr_iinc 47 [(0, .ref (gz_ad (cz_G Z) 0)), (1, .int x1), (2, .int x2), (3, .int x10_)] C d_AR_hasLevelTwoNeighbourElsewhere_47 rfl (by decide) rfl (by rw [ex10_]; rfl) rfl ?_
          refine jr_goto 50 10 C d_AR_hasLevelTwoNeighbourElsewhere_50 (by decide) ?_
          refine jr_sub [0, 1, 2, 3] rfl ?_
          exact ih x1 x2 x10_  h
        · have h := jz_f c9_ h
          refine jr_iconst 45 1 C d_AR_hasLevelTwoNeighbourElsewhere_45 (by decide) ?_
          obtain rfl := Option.some.inj h
          exact jr_zret 46 (v := 1) C d_AR_hasLevelTwoNeighbourElsewhere_46 rfl nb_1
def f_AR_hasLevelTwoNeighbourElsewhere_2 (m : jz_M) : Nat → Int32 → Int32 → Option (Int32)
  | 0, _, _ => none
  | fu + 1, x1, x2 =>
    if 6 ≤ x2 then
      some 0
    else
      f_AR_hasLevelTwoNeighbourElsewhere_10 m (f_AR_hasLevelTwoNeighbourElsewhere_2 m fu) 1000 x1 x2 0
set_option maxHeartbeats 4000000 in
set_option maxRecDepth 100000 in
theorem t_AR_hasLevelTwoNeighbourElsewhere_2 {Z : cz_Z} {X : jz_X} {m : jz_M} {r : Int32} (C : jz_C X 4 b_AR_hasLevelTwoNeighbourElsewhere R_AR (some .boolean) rm_AR_hasLevelTwoNeighbourElsewhere (cz_G Z)) : ∀ (fu : Nat) (x1 : Int32) (x2 : Int32) , f_AR_hasLevelTwoNeighbourElsewhere_2 m fu x1 x2 = some r → jz_J X 4 (cz_G Z) (jz_q X (cz_G Z) (some (.int r)) m) m [(0, .ref (gz_ad (cz_G Z) 0)), (1, .int x1), (2, .int x2)] 2 [] := by
  intro fu
  induction fu with
  | zero => intro x1 x2 h; cases h
  | succ fu ih =>
    intro x1 x2 h
    rw [f_AR_hasLevelTwoNeighbourElsewhere_2] at h
    refine jr_iload_n 2 C d_AR_hasLevelTwoNeighbourElsewhere_2 rfl ?_
    refine jr_bipush 3 6 C d_AR_hasLevelTwoNeighbourElsewhere_3 (by decide) ?_
    refine jr_icmp_ge 5 59 C d_AR_hasLevelTwoNeighbourElsewhere_5 (by decide) (fun c1_ => ?_) (fun c1_ => ?_)
    · have h := jz_t c1_ h
      refine jr_iconst 59 0 C d_AR_hasLevelTwoNeighbourElsewhere_59 (by decide) ?_
      obtain rfl := Option.some.inj h
      exact jr_zret 60 (v := 0) C d_AR_hasLevelTwoNeighbourElsewhere_60 rfl nb_0
    · have h := jz_f c1_ h
      refine jr_iconst 8 0 C d_AR_hasLevelTwoNeighbourElsewhere_8 (by decide) ?_
      refine jr_istore_n 9 [(0, .ref (gz_ad (cz_G Z) 0)), (1, .int x1), (2, .int x2), (3, .int 0)] C d_AR_hasLevelTwoNeighbourElsewhere_9 rfl (by decide) rfl ?_
      refine jr_sub [0, 1, 2, 3] rfl ?_
      exact t_AR_hasLevelTwoNeighbourElsewhere_10 C (f_AR_hasLevelTwoNeighbourElsewhere_2 m fu) ih 1000 x1 x2 0 h
def f_AR_hasLevelTwoNeighbourElsewhere (a1 : Int32) (m : jz_M) : Option (Int32) :=
  f_AR_hasLevelTwoNeighbourElsewhere_2 m 1000 a1 0
set_option maxHeartbeats 4000000 in
set_option maxRecDepth 100000 in
theorem c_AR_hasLevelTwoNeighbourElsewhere {Z : cz_Z} (l : Launch) (hI : jz_I (cz_G Z)) {a1 : Int32} {m : jz_M} {r : Int32} (h : f_AR_hasLevelTwoNeighbourElsewhere a1 m = some r) : jz_m l y_AR_hasLevelTwoNeighbourElsewhere cd_AR_hasLevelTwoNeighbourElsewhere rm_AR_hasLevelTwoNeighbourElsewhere (cz_G Z) [.ref (gz_ad (cz_G Z) 0), .int a1] m (some (.int r)) m := by
  refine jz_met (own := R_AR) (by decide) rfl hI (Nat.le_of_ble_eq_true rfl) (fun X hX C => ?_)
  subst hX
  show jz_J X 4 (cz_G Z) _ m [(0, .ref (gz_ad (cz_G Z) 0)), (1, .int a1)] 0 []
  unfold f_AR_hasLevelTwoNeighbourElsewhere at h
  refine jr_iconst 0 0 C d_AR_hasLevelTwoNeighbourElsewhere_0 (by decide) ?_
  refine jr_istore_n 1 [(0, .ref (gz_ad (cz_G Z) 0)), (1, .int a1), (2, .int 0)] C d_AR_hasLevelTwoNeighbourElsewhere_1 rfl (by decide) rfl ?_
  refine jr_sub [0, 1, 2] rfl ?_
  exact t_AR_hasLevelTwoNeighbourElsewhere_2 C 1000 a1 0 h
abbrev rm_He_firstMutual : Room := { frames := 1, cells := 0, slots := 0, locals := 24 }
abbrev cd_He_firstMutual : Cond := .code y_He_firstMutual b_He_firstMutual 4 (some .int)
def f_He_firstMutual_2 (m : jz_M) : Nat → Nat → Int32 → Int32 → Int32 → Option (Int32)
  | 0, _, _, _, _ => none
  | fu + 1, o0, x1, x2, x3 =>
    if 6 ≤ x3 then
      some (-1)
    else
      (f_He_isMutual o0 x1 x2 x3 m).bind fun v2_ =>
      if v2_ = 0 then
        jz_n (x3 + 1) fun x4_ =>
        f_He_firstMutual_2 m fu o0 x1 x2 x4_
      else
        some x3
set_option maxHeartbeats 4000000 in
set_option maxRecDepth 100000 in
theorem t_He_firstMutual_2 {Z : cz_Z} {X : jz_X} {m : jz_M} {r : Int32} (C : jz_C X 4 b_He_firstMutual R_He (some .int) rm_He_firstMutual (cz_G Z)) : ∀ (fu : Nat) (o0 : Nat) (x1 : Int32) (x2 : Int32) (x3 : Int32) , kz_He o0 → f_He_firstMutual_2 m fu o0 x1 x2 x3 = some r → jz_J X 4 (cz_G Z) (jz_q X (cz_G Z) (some (.int r)) m) m [(0, .ref (gz_ad (cz_G Z) o0)), (1, .int x1), (2, .int x2), (3, .int x3)] 2 [] := by
  intro fu
  induction fu with
  | zero => intro o0 x1 x2 x3 k0 h; cases h
  | succ fu ih =>
    intro o0 x1 x2 x3 k0 h
    rw [f_He_firstMutual_2] at h
    refine jr_iload_n 2 C d_He_firstMutual_2 rfl ?_
    refine jr_bipush 3 6 C d_He_firstMutual_3 (by decide) ?_
    refine jr_icmp_ge 5 26 C d_He_firstMutual_5 (by decide) (fun c1_ => ?_) (fun c1_ => ?_)
    · have h := jz_t c1_ h
      refine jr_iconst 26 (-1) C d_He_firstMutual_26 (by decide) ?_
      obtain rfl := Option.some.inj h
      exact jr_iret 27 (v := (-1)) C d_He_firstMutual_27 rfl
    · have h := jz_f c1_ h
      refine jr_aload_n 8 C d_He_firstMutual_8 rfl ?_
      refine jr_iload_n 9 C d_He_firstMutual_9 rfl ?_
      refine jr_iload_n 10 C d_He_firstMutual_10 rfl ?_
      refine jr_iload_n 11 C d_He_firstMutual_11 rfl ?_
      obtain ⟨v2_, ev2_, h⟩ := jz_b h
      refine jr_callV 12 [.int x1, .int x2, .int x3] C d_He_firstMutual_12 (c_He_isMutual (xz_l X) C.2.2.2.2.2.2.1 k0 ev2_) sz_He_isMutual tz_He_isMutual lk_He_19 (oz_He k0) rfl (by decide) rfl rfl (Nat.le_of_ble_eq_true rfl) rfl ?_
      refine jr_if_eq 15 20 C d_He_firstMutual_15 (by decide) (fun c3_ => ?_) (fun c3_ => ?_)
      · have h := jz_t c3_ h
        obtain ⟨x4_, ex4_, h⟩ := jz_ne h
        refine jr_iinc 20 [(0, .ref (gz_ad (cz_G Z) o0)), (1, .int x1), (2, .int x2), (3, .int x4_)] C d_He_firstMutual_20 rfl (by decide) rfl (by rw [ex4_]; rfl) rfl ?_
        refine jr_goto 23 2 C d_He_firstMutual_23 (by decide) ?_
        refine jr_sub [0, 1, 2, 3] rfl ?_
        exact ih o0 x1 x2 x4_ k0 h
      · have h := jz_f c3_ h
        refine jr_iload_n 18 C d_He_firstMutual_18 rfl ?_
        obtain rfl := Option.some.inj h
        exact jr_iret 19 (v := x3) C d_He_firstMutual_19 rfl
def f_He_firstMutual (o0 : Nat) (a1 : Int32) (a2 : Int32) (m : jz_M) : Option (Int32) :=
  f_He_firstMutual_2 m 1000 o0 a1 a2 0
set_option maxHeartbeats 4000000 in
set_option maxRecDepth 100000 in
theorem c_He_firstMutual {Z : cz_Z} (l : Launch) (hI : jz_I (cz_G Z)) {o0 : Nat} {a1 : Int32} {a2 : Int32} {m : jz_M} {r : Int32} (ko0 : kz_He o0) (h : f_He_firstMutual o0 a1 a2 m = some r) : jz_m l y_He_firstMutual cd_He_firstMutual rm_He_firstMutual (cz_G Z) [.ref (gz_ad (cz_G Z) o0), .int a1, .int a2] m (some (.int r)) m := by
  refine jz_met (own := R_He) (by decide) rfl hI (Nat.le_of_ble_eq_true rfl) (fun X hX C => ?_)
  subst hX
  show jz_J X 4 (cz_G Z) _ m [(0, .ref (gz_ad (cz_G Z) o0)), (1, .int a1), (2, .int a2)] 0 []
  unfold f_He_firstMutual at h
  refine jr_iconst 0 0 C d_He_firstMutual_0 (by decide) ?_
  refine jr_istore_n 1 [(0, .ref (gz_ad (cz_G Z) o0)), (1, .int a1), (2, .int a2), (3, .int 0)] C d_He_firstMutual_1 rfl (by decide) rfl ?_
  refine jr_sub [0, 1, 2, 3] rfl ?_
  exact t_He_firstMutual_2 C 1000 o0 a1 a2 0 ko0 h
abbrev rm_Wi_isShared : Room := { frames := 2, cells := 0, slots := 0, locals := 45 }
abbrev cd_Wi_isShared : Cond := .code y_Wi_isShared b_Wi_isShared 2 (some .boolean)
def f_Wi_isShared (a1 : Int32) (m : jz_M) : Option (Int32) :=
  (f_Wi_countOn a1 m).bind fun v1_ =>
  if v1_ ≤ 2 then
    some 0
  else
    some 1
set_option maxHeartbeats 4000000 in
set_option maxRecDepth 100000 in
theorem c_Wi_isShared {Z : cz_Z} (l : Launch) (hI : jz_I (cz_G Z)) {a1 : Int32} {m : jz_M} {r : Int32} (h : f_Wi_isShared a1 m = some r) : jz_m l y_Wi_isShared cd_Wi_isShared rm_Wi_isShared (cz_G Z) [.ref (gz_ad (cz_G Z) 3), .int a1] m (some (.int r)) m := by
  refine jz_met (own := R_Wi) (by decide) rfl hI (Nat.le_of_ble_eq_true rfl) (fun X hX C => ?_)
  subst hX
  show jz_J X 2 (cz_G Z) _ m [(0, .ref (gz_ad (cz_G Z) 3)), (1, .int a1)] 0 []
  unfold f_Wi_isShared at h
  refine jr_aload_n 0 C d_Wi_isShared_0 rfl ?_
  refine jr_iload_n 1 C d_Wi_isShared_1 rfl ?_
  obtain ⟨v1_, ev1_, h⟩ := jz_b h
  refine jr_callV 2 [.int a1] C d_Wi_isShared_2 (c_Wi_countOn (xz_l X) C.2.2.2.2.2.2.1 ev1_) sz_Wi_countOn tz_Wi_countOn lk_Wi_22 oz_Wi rfl (by decide) rfl rfl (Nat.le_of_ble_eq_true rfl) rfl ?_
  refine jr_iconst 5 2 C d_Wi_isShared_5 (by decide) ?_
  refine jr_icmp_le 6 13 C d_Wi_isShared_6 (by decide) (fun c2_ => ?_) (fun c2_ => ?_)
  · have h := jz_t c2_ h
    refine jr_iconst 13 0 C d_Wi_isShared_13 (by decide) ?_
    obtain rfl := Option.some.inj h
    exact jr_zret 14 (v := 0) C d_Wi_isShared_14 rfl nb_0
  · have h := jz_f c2_ h
    refine jr_iconst 9 1 C d_Wi_isShared_9 (by decide) ?_
    refine jr_goto 10 14 C d_Wi_isShared_10 (by decide) ?_
    obtain rfl := Option.some.inj h
    exact jr_zret 14 (v := 1) C d_Wi_isShared_14 rfl nb_1
abbrev rm_Wi_priorityOf : Room := { frames := 0, cells := 0, slots := 0, locals := 0 }
abbrev cd_Wi_priorityOf : Cond := .code y_Wi_priorityOf b_Wi_priorityOf 3 (some .int)
def f_Wi_priorityOf (a1 : Int32) (a2 : Int32) (m : jz_M) : Option (Int32) :=
  (jz_ix 36 ((a1 * 6) + a2)).bind fun j1_ =>
  some (m 5 j1_)
set_option maxHeartbeats 4000000 in
set_option maxRecDepth 100000 in
theorem c_Wi_priorityOf {Z : cz_Z} (l : Launch) (hI : jz_I (cz_G Z)) {a1 : Int32} {a2 : Int32} {m : jz_M} {r : Int32} (h : f_Wi_priorityOf a1 a2 m = some r) : jz_m l y_Wi_priorityOf cd_Wi_priorityOf rm_Wi_priorityOf (cz_G Z) [.ref (gz_ad (cz_G Z) 3), .int a1, .int a2] m (some (.int r)) m := by
  refine jz_met (own := R_Wi) (by decide) rfl hI (Nat.le_of_ble_eq_true rfl) (fun X hX C => ?_)
  subst hX
  show jz_J X 3 (cz_G Z) _ m [(0, .ref (gz_ad (cz_G Z) 3)), (1, .int a1), (2, .int a2)] 0 []
  unfold f_Wi_priorityOf at h
  refine jr_aload_n 0 C d_Wi_priorityOf_0 rfl ?_
  refine gf_Wi_15 1 C d_Wi_priorityOf_1 ?_
  refine jr_iload_n 4 C d_Wi_priorityOf_4 rfl ?_
  refine jr_bipush 5 6 C d_Wi_priorityOf_5 (by decide) ?_
  refine jr_imul 7 C d_Wi_priorityOf_7 ?_
  refine jr_iload_n 8 C d_Wi_priorityOf_8 rfl ?_
  refine jr_iadd 9 C d_Wi_priorityOf_9 ?_
  obtain ⟨j1_, ej1_, h⟩ := jz_b h
  refine jr_iald 10 C d_Wi_priorityOf_10 zk_Wi_priorities ej1_ ?_
  obtain rfl := Option.some.inj h
  exact jr_iret 11 (v := (m 5 j1_)) C d_Wi_priorityOf_11 rfl
abbrev rm_AR_speakerSeenBy : Room := { frames := 1, cells := 0, slots := 0, locals := 24 }
abbrev cd_AR_speakerSeenBy : Cond := .code y_AR_speakerSeenBy b_AR_speakerSeenBy 7 (some .int)
def f_AR_speakerSeenBy_6 (m : jz_M) : Nat → Int32 → Int32 → Int32 → Int32 → Int32 → Option (Int32)
  | 0, _, _, _, _, _ => none
  | fu + 1, x1, x2, x3, x4, x5 =>
    if 6 ≤ x5 then
      some x4
    else
      (f_AR_hearingAt x3 m).bind fun v2_ =>
      (f_He_isMutual v2_ x1 x2 x5 m).bind fun v3_ =>
      if v3_ = 0 then
        jz_n (x5 + 1) fun x5_ =>
        f_AR_speakerSeenBy_6 m fu x1 x2 x3 x4 x5_
      else
        (f_Wi_priorityOf x5 x2 m).bind fun v6_ =>
        (f_Wi_priorityOf x4 x2 m).bind fun v7_ =>
        jz_n (v6_ - v7_) fun x8_ =>
        if 0 < x8_ then
          jz_n (x5 + 1) fun x10_ =>
          f_AR_speakerSeenBy_6 m fu x1 x2 x3 x5 x10_
        else
          if ¬ x8_ = 0 then
            jz_n (x5 + 1) fun x12_ =>
            f_AR_speakerSeenBy_6 m fu x1 x2 x3 x4 x12_
          else
            if x5 ≤ x4 then
              jz_n (x5 + 1) fun x14_ =>
              f_AR_speakerSeenBy_6 m fu x1 x2 x3 x4 x14_
            else
              jz_n (x5 + 1) fun x15_ =>
              f_AR_speakerSeenBy_6 m fu x1 x2 x3 x5 x15_
set_option maxHeartbeats 4000000 in
set_option maxRecDepth 100000 in
theorem t_AR_speakerSeenBy_6 {Z : cz_Z} {X : jz_X} {m : jz_M} {r : Int32} (C : jz_C X 7 b_AR_speakerSeenBy R_AR (some .int) rm_AR_speakerSeenBy (cz_G Z)) : ∀ (fu : Nat) (x1 : Int32) (x2 : Int32) (x3 : Int32) (x4 : Int32) (x5 : Int32) , f_AR_speakerSeenBy_6 m fu x1 x2 x3 x4 x5 = some r → jz_J X 7 (cz_G Z) (jz_q X (cz_G Z) (some (.int r)) m) m [(0, .ref (gz_ad (cz_G Z) 0)), (1, .int x1), (2, .int x2), (3, .int x3), (4, .int x4), (5, .int x5)] 6 [] := by
  intro fu
  induction fu with
  | zero => intro x1 x2 x3 x4 x5 h; cases h
  | succ fu ih =>
    intro x1 x2 x3 x4 x5 h
    rw [f_AR_speakerSeenBy_6] at h
    refine jr_iload 6 C d_AR_speakerSeenBy_6 rfl ?_
    refine jr_bipush 8 6 C d_AR_speakerSeenBy_8 (by decide) ?_
    refine jr_icmp_ge 10 78 C d_AR_speakerSeenBy_10 (by decide) (fun c1_ => ?_) (fun c1_ => ?_)
    · have h := jz_t c1_ h
      refine jr_iload 78 C d_AR_speakerSeenBy_78 rfl ?_
      obtain rfl := Option.some.inj h
      exact jr_iret 80 (v := x4) C d_AR_speakerSeenBy_80 rfl
    · have h := jz_f c1_ h
      refine jr_aload_n 13 C d_AR_speakerSeenBy_13 rfl ?_
      refine jr_iload_n 14 C d_AR_speakerSeenBy_14 rfl ?_
      obtain ⟨v2_, ev2_, h⟩ := jz_b h
      refine jr_callV 15 [.int x3] C d_AR_speakerSeenBy_15 (c_AR_hearingAt (xz_l X) C.2.2.2.2.2.2.1  ev2_) sz_AR_hearingAt tz_AR_hearingAt lk_AR_150 oz_AR rfl (by decide) rfl rfl (Nat.le_of_ble_eq_true rfl) rfl ?_
      refine jr_iload_n 18 C d_AR_speakerSeenBy_18 rfl ?_
      refine jr_iload_n 19 C d_AR_speakerSeenBy_19 rfl ?_
      refine jr_iload 20 C d_AR_speakerSeenBy_20 rfl ?_
      obtain ⟨v3_, ev3_, h⟩ := jz_b h
      refine jr_callVN 22 [.int x1, .int x2, .int x5] C d_AR_speakerSeenBy_22 (c_He_isMutual (xz_l X) C.2.2.2.2.2.2.1 (kr_AR_hearingAt ev2_) ev3_) sz_He_isMutual tz_He_isMutual lk_AR_154 (oz_He (kr_AR_hearingAt ev2_)) rfl (by decide) rfl rfl (Nat.le_of_ble_eq_true rfl) rfl ?_
      refine jr_if_eq 25 72 C d_AR_speakerSeenBy_25 (by decide) (fun c4_ => ?_) (fun c4_ => ?_)
      · have h := jz_t c4_ h
        obtain ⟨x5_, ex5_, h⟩ := jz_ne h
        refine jr_iinc 72 [(0, .ref (gz_ad (cz_G Z) 0)), (1, .int x1), (2, .int x2), (3, .int x3), (4, .int x4), (5, .int x5_)] C d_AR_speakerSeenBy_72 rfl (by decide) rfl (by rw [ex5_]; rfl) rfl ?_
        refine jr_goto 75 6 C d_AR_speakerSeenBy_75 (by decide) ?_
        refine jr_sub [0, 1, 2, 3, 4, 5] rfl ?_
        exact ih x1 x2 x3 x4 x5_  h
      · have h := jz_f c4_ h
        refine jr_aload_n 28 C d_AR_speakerSeenBy_28 rfl ?_
        refine gf_AR_19 29 C d_AR_speakerSeenBy_29 ?_
        refine jr_iload 32 C d_AR_speakerSeenBy_32 rfl ?_
        refine jr_iload_n 34 C d_AR_speakerSeenBy_34 rfl ?_
        obtain ⟨v6_, ev6_, h⟩ := jz_b h
        refine jr_callVN 35 [.int x5, .int x2] C d_AR_speakerSeenBy_35 (c_Wi_priorityOf (xz_l X) C.2.2.2.2.2.2.1  ev6_) sz_Wi_priorityOf tz_Wi_priorityOf lk_AR_193 oz_Wi rfl (by decide) rfl rfl (Nat.le_of_ble_eq_true rfl) rfl ?_
        refine jr_aload_n 38 C d_AR_speakerSeenBy_38 rfl ?_
        refine gf_AR_19 39 C d_AR_speakerSeenBy_39 ?_
        refine jr_iload 42 C d_AR_speakerSeenBy_42 rfl ?_
        refine jr_iload_n 44 C d_AR_speakerSeenBy_44 rfl ?_
        obtain ⟨v7_, ev7_, h⟩ := jz_b h
        refine jr_callVN 45 [.int x4, .int x2] C d_AR_speakerSeenBy_45 (c_Wi_priorityOf (xz_l X) C.2.2.2.2.2.2.1  ev7_) sz_Wi_priorityOf tz_Wi_priorityOf lk_AR_193 oz_Wi rfl (by decide) rfl rfl (Nat.le_of_ble_eq_true rfl) rfl ?_
        refine jr_isub 48 C d_AR_speakerSeenBy_48 ?_
        obtain ⟨x8_, ex8_, h⟩ := jz_ne h
        refine jr_top ex8_ ?_
        refine jr_istore 49 [(0, .ref (gz_ad (cz_G Z) 0)), (1, .int x1), (2, .int x2), (3, .int x3), (4, .int x4), (5, .int x5), (6, .int x8_)] C d_AR_speakerSeenBy_49 rfl (by decide) rfl ?_
        refine jr_iload 51 C d_AR_speakerSeenBy_51 rfl ?_
        refine jr_if_gt 53 68 C d_AR_speakerSeenBy_53 (by decide) (fun c9_ => ?_) (fun c9_ => ?_)
        · have h := jz_t c9_ h
          refine jr_iload 68 C d_AR_speakerSeenBy_68 rfl ?_
          refine jr_istore 70 [(0, .ref (gz_ad (cz_G Z) 0)), (1, .int x1), (2, .int x2), (3, .int x3), (4, .int x5), (5, .int x5), (6, .int x8_)] C d_AR_speakerSeenBy_70 rfl (by decide) rfl ?_
          obtain ⟨x10_, ex10_, h⟩ := jz_ne h
          refine jr_iinc 72 [(0, .ref (gz_ad (cz_G Z) 0)), (1, .int x1), (2, .int x2), (3, .int x3), (4, .int x5), (5, .int x10_), (6, .int x8_)] C d_AR_speakerSeenBy_72 rfl (by decide) rfl (by rw [ex10_]; rfl) rfl ?_
          refine jr_goto 75 6 C d_AR_speakerSeenBy_75 (by decide) ?_
          refine jr_sub [0, 1, 2, 3, 4, 5] rfl ?_
          exact ih x1 x2 x3 x5 x10_  h
        · have h := jz_f c9_ h
          refine jr_iload 56 C d_AR_speakerSeenBy_56 rfl ?_
          refine jr_if_ne 58 72 C d_AR_speakerSeenBy_58 (by decide) (fun c11_ => ?_) (fun c11_ => ?_)
          · have h := jz_t c11_ h
            obtain ⟨x12_, ex12_, h⟩ := jz_ne h
            refine jr_iinc 72 [(0, .ref (gz_ad (cz_G Z) 0)), (1, .int x1), (2, .int x2), (3, .int x3), (4, .int x4), (5, .int x12_), (6, .int x8_)] C d_AR_speakerSeenBy_72 rfl (by decide) rfl (by rw [ex12_]; rfl) rfl ?_
            refine jr_goto 75 6 C d_AR_speakerSeenBy_75 (by decide) ?_
            refine jr_sub [0, 1, 2, 3, 4, 5] rfl ?_
            exact ih x1 x2 x3 x4 x12_  h
          · have h := jz_f c11_ h
            refine jr_iload 61 C d_AR_speakerSeenBy_61 rfl ?_
            refine jr_iload 63 C d_AR_speakerSeenBy_63 rfl ?_
            refine jr_icmp_le 65 72 C d_AR_speakerSeenBy_65 (by decide) (fun c13_ => ?_) (fun c13_ => ?_)
            · have h := jz_t c13_ h
              obtain ⟨x14_, ex14_, h⟩ := jz_ne h
              refine jr_iinc 72 [(0, .ref (gz_ad (cz_G Z) 0)), (1, .int x1), (2, .int x2), (3, .int x3), (4, .int x4), (5, .int x14_), (6, .int x8_)] C d_AR_speakerSeenBy_72 rfl (by decide) rfl (by rw [ex14_]; rfl) rfl ?_
              refine jr_goto 75 6 C d_AR_speakerSeenBy_75 (by decide) ?_
              refine jr_sub [0, 1, 2, 3, 4, 5] rfl ?_
              exact ih x1 x2 x3 x4 x14_  h
            · have h := jz_f c13_ h
              refine jr_iload 68 C d_AR_speakerSeenBy_68 rfl ?_
              refine jr_istore 70 [(0, .ref (gz_ad (cz_G Z) 0)), (1, .int x1), (2, .int x2), (3, .int x3), (4, .int x5), (5, .int x5), (6, .int x8_)] C d_AR_speakerSeenBy_70 rfl (by decide) rfl ?_
              obtain ⟨x15_, ex15_, h⟩ := jz_ne h
              refine jr_iinc 72 [(0, .ref (gz_ad (cz_G Z) 0)), (1, .int x1), (2, .int x2), (3, .int x3), (4, .int x5), (5, .int x15_), (6, .int x8_)] C d_AR_speakerSeenBy_72 rfl (by decide) rfl (by rw [ex15_]; rfl) rfl ?_
              refine jr_goto 75 6 C d_AR_speakerSeenBy_75 (by decide) ?_
              refine jr_sub [0, 1, 2, 3, 4, 5] rfl ?_
              exact ih x1 x2 x3 x5 x15_  h
def f_AR_speakerSeenBy (a1 : Int32) (a2 : Int32) (a3 : Int32) (m : jz_M) : Option (Int32) :=
  f_AR_speakerSeenBy_6 m 1000 a1 a2 a3 a1 0
set_option maxHeartbeats 4000000 in
set_option maxRecDepth 100000 in
theorem c_AR_speakerSeenBy {Z : cz_Z} (l : Launch) (hI : jz_I (cz_G Z)) {a1 : Int32} {a2 : Int32} {a3 : Int32} {m : jz_M} {r : Int32} (h : f_AR_speakerSeenBy a1 a2 a3 m = some r) : jz_m l y_AR_speakerSeenBy cd_AR_speakerSeenBy rm_AR_speakerSeenBy (cz_G Z) [.ref (gz_ad (cz_G Z) 0), .int a1, .int a2, .int a3] m (some (.int r)) m := by
  refine jz_met (own := R_AR) (by decide) rfl hI (Nat.le_of_ble_eq_true rfl) (fun X hX C => ?_)
  subst hX
  show jz_J X 7 (cz_G Z) _ m [(0, .ref (gz_ad (cz_G Z) 0)), (1, .int a1), (2, .int a2), (3, .int a3)] 0 []
  unfold f_AR_speakerSeenBy at h
  refine jr_iload_n 0 C d_AR_speakerSeenBy_0 rfl ?_
  refine jr_istore 1 [(0, .ref (gz_ad (cz_G Z) 0)), (1, .int a1), (2, .int a2), (3, .int a3), (4, .int a1)] C d_AR_speakerSeenBy_1 rfl (by decide) rfl ?_
  refine jr_iconst 3 0 C d_AR_speakerSeenBy_3 (by decide) ?_
  refine jr_istore 4 [(0, .ref (gz_ad (cz_G Z) 0)), (1, .int a1), (2, .int a2), (3, .int a3), (4, .int a1), (5, .int 0)] C d_AR_speakerSeenBy_4 rfl (by decide) rfl ?_
  refine jr_sub [0, 1, 2, 3, 4, 5] rfl ?_
  exact t_AR_speakerSeenBy_6 C 1000 a1 a2 a3 a1 0 h
abbrev rm_AR_nameOf : Room := { frames := 0, cells := 0, slots := 0, locals := 0 }
abbrev cd_AR_nameOf : Cond := .code y_AR_nameOf b_AR_nameOf 2 (some .int)
def f_AR_nameOf (a0 : Int32) (a1 : Int32) (m : jz_M) : Option (Int32) :=
  some (((7 : Int32) * a0) + a1)
set_option maxHeartbeats 4000000 in
set_option maxRecDepth 100000 in
theorem c_AR_nameOf {Z : cz_Z} (l : Launch) (hI : jz_I (cz_G Z)) {a0 : Int32} {a1 : Int32} {m : jz_M} {r : Int32} (h : f_AR_nameOf a0 a1 m = some r) : jz_m l y_AR_nameOf cd_AR_nameOf rm_AR_nameOf (cz_G Z) [.int a0, .int a1] m (some (.int r)) m := by
  refine jz_met (own := R_AR) (by decide) rfl hI (Nat.le_of_ble_eq_true rfl) (fun X hX C => ?_)
  subst hX
  show jz_J X 2 (cz_G Z) _ m [(0, .int a0), (1, .int a1)] 0 []
  unfold f_AR_nameOf at h
  refine jr_bipush 0 7 C d_AR_nameOf_0 (by decide) ?_
  refine jr_iload_n 2 C d_AR_nameOf_2 rfl ?_
  refine jr_imul 3 C d_AR_nameOf_3 ?_
  refine jr_iload_n 4 C d_AR_nameOf_4 rfl ?_
  refine jr_iadd 5 C d_AR_nameOf_5 ?_
  obtain rfl := Option.some.inj h
  exact jr_iret 6 (v := (((7 : Int32) * a0) + a1)) C d_AR_nameOf_6 rfl
end
section
abbrev rm_Wi_metricOf : Room := { frames := 0, cells := 0, slots := 0, locals := 0 }
abbrev cd_Wi_metricOf : Cond := .code y_Wi_metricOf b_Wi_metricOf 3 (some .int)
def f_Wi_metricOf (a1 : Int32) (a2 : Int32) (m : jz_M) : Option (Int32) :=
  (jz_ix 36 ((a1 * 6) + a2)).bind fun j1_ =>
  some (m 4 j1_)
set_option maxHeartbeats 4000000 in
set_option maxRecDepth 100000 in
theorem c_Wi_metricOf {Z : cz_Z} (l : Launch) (hI : jz_I (cz_G Z)) {a1 : Int32} {a2 : Int32} {m : jz_M} {r : Int32} (h : f_Wi_metricOf a1 a2 m = some r) : jz_m l y_Wi_metricOf cd_Wi_metricOf rm_Wi_metricOf (cz_G Z) [.ref (gz_ad (cz_G Z) 3), .int a1, .int a2] m (some (.int r)) m := by
  refine jz_met (own := R_Wi) (by decide) rfl hI (Nat.le_of_ble_eq_true rfl) (fun X hX C => ?_)
  subst hX
  show jz_J X 3 (cz_G Z) _ m [(0, .ref (gz_ad (cz_G Z) 3)), (1, .int a1), (2, .int a2)] 0 []
  unfold f_Wi_metricOf at h
  refine jr_aload_n 0 C d_Wi_metricOf_0 rfl ?_
  refine gf_Wi_9 1 C d_Wi_metricOf_1 ?_
  refine jr_iload_n 4 C d_Wi_metricOf_4 rfl ?_
  refine jr_bipush 5 6 C d_Wi_metricOf_5 (by decide) ?_
  refine jr_imul 7 C d_Wi_metricOf_7 ?_
  refine jr_iload_n 8 C d_Wi_metricOf_8 rfl ?_
  refine jr_iadd 9 C d_Wi_metricOf_9 ?_
  obtain ⟨j1_, ej1_, h⟩ := jz_b h
  refine jr_iald 10 C d_Wi_metricOf_10 zk_Wi_metrics ej1_ ?_
  obtain rfl := Option.some.inj h
  exact jr_iret 11 (v := (m 4 j1_)) C d_Wi_metricOf_11 rfl
abbrev rm_Dr_addLink : Room := { frames := 0, cells := 0, slots := 0, locals := 0 }
abbrev cd_Dr_addLink : Cond := .code y_Dr_addLink b_Dr_addLink 3 none
def f_Dr_addLink (a1 : Int32) (a2 : Int32) (m : jz_M) : Option (jz_M) :=
  if 10 ≤ (m 146 0) then
    some m
  else
    (jz_ix 10 (m 146 0)).bind fun j2_ =>
    jz_n (jz_up m 147 j2_ (a1 + ((64 : Int32) * a2))) fun m3_ =>
    jz_n (jz_up m3_ 146 0 ((m3_ 146 0) + 1)) fun m4_ =>
    some m4_
set_option maxHeartbeats 4000000 in
set_option maxRecDepth 100000 in
theorem c_Dr_addLink {Z : cz_Z} (l : Launch) (hI : jz_I (cz_G Z)) {a1 : Int32} {a2 : Int32} {m : jz_M} {r : jz_M} (h : f_Dr_addLink a1 a2 m = some r) : jz_m l y_Dr_addLink cd_Dr_addLink rm_Dr_addLink (cz_G Z) [.ref (gz_ad (cz_G Z) 146), .int a1, .int a2] m none r := by
  refine jz_met (own := R_Dr) (by decide) rfl hI (Nat.le_of_ble_eq_true rfl) (fun X hX C => ?_)
  subst hX
  show jz_J X 3 (cz_G Z) _ m [(0, .ref (gz_ad (cz_G Z) 146)), (1, .int a1), (2, .int a2)] 0 []
  unfold f_Dr_addLink at h
  refine jr_aload_n 0 C d_Dr_addLink_0 rfl ?_
  refine gf_Dr_15 1 C d_Dr_addLink_1 ?_
  refine jr_bipush 4 10 C d_Dr_addLink_4 (by decide) ?_
  refine jr_icmp_ge 6 34 C d_Dr_addLink_6 (by decide) (fun c1_ => ?_) (fun c1_ => ?_)
  · have h := jz_t c1_ h
    obtain rfl := Option.some.inj h
    exact jr_vret 34 C d_Dr_addLink_34 rfl
  · have h := jz_f c1_ h
    refine jr_aload_n 9 C d_Dr_addLink_9 rfl ?_
    refine gf_Dr_9 10 C d_Dr_addLink_10 ?_
    refine jr_aload_n 13 C d_Dr_addLink_13 rfl ?_
    refine gf_Dr_15 14 C d_Dr_addLink_14 ?_
    refine jr_iload_n 17 C d_Dr_addLink_17 rfl ?_
    refine jr_bipush 18 64 C d_Dr_addLink_18 (by decide) ?_
    refine jr_iload_n 20 C d_Dr_addLink_20 rfl ?_
    refine jr_imul 21 C d_Dr_addLink_21 ?_
    refine jr_iadd 22 C d_Dr_addLink_22 ?_
    obtain ⟨j2_, ej2_, h⟩ := jz_b h
    obtain ⟨m3_, em3_, h⟩ := jz_ne h
    refine jr_iast 23 C d_Dr_addLink_23 zk_Dr_links ej2_ ?_
    refine jr_mem em3_ ?_
    refine jr_aload_n 24 C d_Dr_addLink_24 rfl ?_
    refine jr_dup 25 C d_Dr_addLink_25 rfl ?_
    refine gf_Dr_15 26 C d_Dr_addLink_26 ?_
    refine jr_iconst 29 1 C d_Dr_addLink_29 (by decide) ?_
    refine jr_iadd 30 C d_Dr_addLink_30 ?_
    obtain ⟨m4_, em4_, h⟩ := jz_ne h
    refine pf_Dr_15 31 C d_Dr_addLink_31 ?_
    refine jr_mem em4_ ?_
    obtain rfl := Option.some.inj h
    exact jr_vret 34 C d_Dr_addLink_34 rfl
abbrev rm_AR_draftItself : Room := { frames := 3, cells := 0, slots := 0, locals := 66 }
abbrev cd_AR_draftItself : Cond := .code y_AR_draftItself b_AR_draftItself 6 none
def f_AR_draftItself_93 (k37 : Int32 → Int32 → Int32 → jz_M → Option (jz_M)) (x1 : Int32) (x2 : Int32) (x3 : Int32) (s0 : Int32) (m : jz_M) : Option (jz_M) :=
  (f_Wi_metricOf x1 x3 m).bind fun v1_ =>
  (f_Dr_addLink s0 v1_ m).bind fun v2_ =>
  jz_n (x3 + 1) fun x3_ =>
  k37 x1 x2 x3_ v2_
set_option maxHeartbeats 4000000 in
set_option maxRecDepth 100000 in
theorem t_AR_draftItself_93 {Z : cz_Z} {X : jz_X} {r : jz_M} (C : jz_C X 6 b_AR_draftItself R_AR none rm_AR_draftItself (cz_G Z)) (k37 : Int32 → Int32 → Int32 → jz_M → Option (jz_M)) (hk37 : ∀ (x1 : Int32) (x2 : Int32) (x3 : Int32) (m : jz_M), k37 x1 x2 x3 m = some r → jz_J X 6 (cz_G Z) (jz_q X (cz_G Z) none r) m [(0, .ref (gz_ad (cz_G Z) 0)), (1, .int x1), (2, .int x2), (3, .int x3)] 37 []) : ∀ (x1 : Int32) (x2 : Int32) (x3 : Int32) (s0 : Int32) (m : jz_M) , f_AR_draftItself_93 k37 x1 x2 x3 s0 m = some r → jz_J X 6 (cz_G Z) (jz_q X (cz_G Z) none r) m [(0, .ref (gz_ad (cz_G Z) 0)), (1, .int x1), (2, .int x2), (3, .int x3)] 93 [.int s0] := by
  intro x1 x2 x3 s0 m h
  unfold f_AR_draftItself_93 at h
  refine jr_istore 93 [(0, .ref (gz_ad (cz_G Z) 0)), (1, .int x1), (2, .int x2), (3, .int x3), (5, .int s0)] C d_AR_draftItself_93 rfl (by decide) rfl ?_
  refine jr_aload_n 95 C d_AR_draftItself_95 rfl ?_
  refine gf_AR_40 96 C d_AR_draftItself_96 ?_
  refine jr_iload 99 C d_AR_draftItself_99 rfl ?_
  refine jr_aload_n 101 C d_AR_draftItself_101 rfl ?_
  refine gf_AR_19 102 C d_AR_draftItself_102 ?_
  refine jr_iload_n 105 C d_AR_draftItself_105 rfl ?_
  refine jr_iload_n 106 C d_AR_draftItself_106 rfl ?_
  obtain ⟨v1_, ev1_, h⟩ := jz_b h
  refine jr_callVN 107 [.int x1, .int x3] C d_AR_draftItself_107 (c_Wi_metricOf (xz_l X) C.2.2.2.2.2.2.1 ev1_) sz_Wi_metricOf tz_Wi_metricOf lk_AR_218 oz_Wi rfl (by decide) rfl rfl (Nat.le_of_ble_eq_true rfl) rfl ?_
  obtain ⟨v2_, ev2_, h⟩ := jz_b h
  refine jr_callVN 110 [.int s0, .int v1_] C d_AR_draftItself_110 (c_Dr_addLink (xz_l X) C.2.2.2.2.2.2.1 ev2_) sz_Dr_addLink tz_Dr_addLink lk_AR_221 oz_Dr rfl (by decide) rfl rfl (Nat.le_of_ble_eq_true rfl) rfl ?_
  obtain ⟨x3_, ex3_, h⟩ := jz_ne h
  refine jr_iinc 113 [(0, .ref (gz_ad (cz_G Z) 0)), (1, .int x1), (2, .int x2), (3, .int x3_), (5, .int s0)] C d_AR_draftItself_113 rfl (by decide) rfl (by rw [ex3_]; rfl) rfl ?_
  refine jr_goto 116 37 C d_AR_draftItself_116 (by decide) ?_
  refine jr_sub [0, 1, 2, 3] rfl ?_
  exact hk37 x1 x2 x3_ v2_ h
def f_AR_draftItself_37 : Nat → Int32 → Int32 → Int32 → jz_M → Option (jz_M)
  | 0, _, _, _, _ => none
  | fu + 1, x1, x2, x3, m =>
    if 6 ≤ x3 then
      some m
    else
      (f_AR_hearingAt x2 m).bind fun v2_ =>
      (f_He_firstMutual v2_ x1 x3 m).bind fun v3_ =>
      if v3_ < 0 then
        jz_n (x3 + 1) fun x5_ =>
        f_AR_draftItself_37 fu x1 x2 x5_ m
      else
        (f_Wi_isShared x3 m).bind fun v6_ =>
        if v6_ = 0 then
          (f_AR_nameOf v3_ 0 m).bind fun v8_ =>
          f_AR_draftItself_93 (f_AR_draftItself_37 fu) x1 x2 x3 v8_ m
        else
          (f_AR_speakerSeenBy x1 x3 x2 m).bind fun v9_ =>
          (f_AR_nameOf v9_ ((1 : Int32) + x3) m).bind fun v10_ =>
          f_AR_draftItself_93 (f_AR_draftItself_37 fu) x1 x2 x3 v10_ m
set_option maxHeartbeats 4000000 in
set_option maxRecDepth 100000 in
theorem t_AR_draftItself_37 {Z : cz_Z} {X : jz_X} {r : jz_M} (C : jz_C X 6 b_AR_draftItself R_AR none rm_AR_draftItself (cz_G Z)) : ∀ (fu : Nat) (x1 : Int32) (x2 : Int32) (x3 : Int32) (m : jz_M) , f_AR_draftItself_37 fu x1 x2 x3 m = some r → jz_J X 6 (cz_G Z) (jz_q X (cz_G Z) none r) m [(0, .ref (gz_ad (cz_G Z) 0)), (1, .int x1), (2, .int x2), (3, .int x3)] 37 [] := by
  intro fu
  induction fu with
  | zero => intro x1 x2 x3 m h; cases h
  | succ fu ih =>
    intro x1 x2 x3 m h
    rw [f_AR_draftItself_37] at h
    refine jr_iload_n 37 C d_AR_draftItself_37 rfl ?_
    refine jr_bipush 38 6 C d_AR_draftItself_38 (by decide) ?_
    refine jr_icmp_ge 40 119 C d_AR_draftItself_40 (by decide) (fun c1_ => ?_) (fun c1_ => ?_)
    · have h := jz_t c1_ h
      obtain rfl := Option.some.inj h
      exact jr_vret 119 C d_AR_draftItself_119 rfl
    · have h := jz_f c1_ h
      refine jr_aload_n 43 C d_AR_draftItself_43 rfl ?_
      refine jr_iload_n 44 C d_AR_draftItself_44 rfl ?_
      obtain ⟨v2_, ev2_, h⟩ := jz_b h
      refine jr_callV 45 [.int x2] C d_AR_draftItself_45 (c_AR_hearingAt (xz_l X) C.2.2.2.2.2.2.1  ev2_) sz_AR_hearingAt tz_AR_hearingAt lk_AR_150 oz_AR rfl (by decide) rfl rfl (Nat.le_of_ble_eq_true rfl) rfl ?_
      refine jr_iload_n 48 C d_AR_draftItself_48 rfl ?_
      refine jr_iload_n 49 C d_AR_draftItself_49 rfl ?_
      obtain ⟨v3_, ev3_, h⟩ := jz_b h
      refine jr_callVN 50 [.int x1, .int x3] C d_AR_draftItself_50 (c_He_firstMutual (xz_l X) C.2.2.2.2.2.2.1 (kr_AR_hearingAt ev2_) ev3_) sz_He_firstMutual tz_He_firstMutual lk_AR_212 (oz_He (kr_AR_hearingAt ev2_)) rfl (by decide) rfl rfl (Nat.le_of_ble_eq_true rfl) rfl ?_
      refine jr_istore 53 [(0, .ref (gz_ad (cz_G Z) 0)), (1, .int x1), (2, .int x2), (3, .int x3), (4, .int v3_)] C d_AR_draftItself_53 rfl (by decide) rfl ?_
      refine jr_iload 55 C d_AR_draftItself_55 rfl ?_
      refine jr_if_lt 57 113 C d_AR_draftItself_57 (by decide) (fun c4_ => ?_) (fun c4_ => ?_)
      · have h := jz_t c4_ h
        obtain ⟨x5_, ex5_, h⟩ := jz_ne h
        refine jr_iinc 113 [(0, .ref (gz_ad (cz_G Z) 0)), (1, .int x1), (2, .int x2), (3, .int x5_), (4, .int v3_)] C d_AR_draftItself_113 rfl (by decide) rfl (by rw [ex5_]; rfl) rfl ?_
        refine jr_goto 116 37 C d_AR_draftItself_116 (by decide) ?_
        refine jr_sub [0, 1, 2, 3] rfl ?_
        exact ih x1 x2 x5_ m  h
      · have h := jz_f c4_ h
        refine jr_aload_n 60 C d_AR_draftItself_60 rfl ?_
        refine gf_AR_19 61 C d_AR_draftItself_61 ?_
        refine jr_iload_n 64 C d_AR_draftItself_64 rfl ?_
        obtain ⟨v6_, ev6_, h⟩ := jz_b h
        refine jr_callVN 65 [.int x3] C d_AR_draftItself_65 (c_Wi_isShared (xz_l X) C.2.2.2.2.2.2.1  ev6_) sz_Wi_isShared tz_Wi_isShared lk_AR_102 oz_Wi rfl (by decide) rfl rfl (Nat.le_of_ble_eq_true rfl) rfl ?_
        refine jr_if_eq 68 87 C d_AR_draftItself_68 (by decide) (fun c7_ => ?_) (fun c7_ => ?_)
        · have h := jz_t c7_ h
          refine jr_iload 87 C d_AR_draftItself_87 rfl ?_
          refine jr_iconst 89 0 C d_AR_draftItself_89 (by decide) ?_
          obtain ⟨v8_, ev8_, h⟩ := jz_b h
          refine jr_callS 90 [.int v3_, .int 0] C d_AR_draftItself_90 (c_AR_nameOf (xz_l X) C.2.2.2.2.2.2.1  ev8_) sz_AR_nameOf tz_AR_nameOf lk_AR_215 (by decide) rfl rfl (Nat.le_of_ble_eq_true rfl) rfl ?_
          refine jr_sub [0, 1, 2, 3] rfl ?_
          exact t_AR_draftItself_93 C (f_AR_draftItself_37 fu) ih x1 x2 x3 v8_ m h
        · have h := jz_f c7_ h
          refine jr_aload_n 71 C d_AR_draftItself_71 rfl ?_
          refine jr_iload_n 72 C d_AR_draftItself_72 rfl ?_
          refine jr_iload_n 73 C d_AR_draftItself_73 rfl ?_
          refine jr_iload_n 74 C d_AR_draftItself_74 rfl ?_
          obtain ⟨v9_, ev9_, h⟩ := jz_b h
          refine jr_callV 75 [.int x1, .int x3, .int x2] C d_AR_draftItself_75 (c_AR_speakerSeenBy (xz_l X) C.2.2.2.2.2.2.1  ev9_) sz_AR_speakerSeenBy tz_AR_speakerSeenBy lk_AR_157 oz_AR rfl (by decide) rfl rfl (Nat.le_of_ble_eq_true rfl) rfl ?_
          refine jr_iconst 78 1 C d_AR_draftItself_78 (by decide) ?_
          refine jr_iload_n 79 C d_AR_draftItself_79 rfl ?_
          refine jr_iadd 80 C d_AR_draftItself_80 ?_
          obtain ⟨v10_, ev10_, h⟩ := jz_b h
          refine jr_callS 81 [.int v9_, .int ((1 : Int32) + x3)] C d_AR_draftItself_81 (c_AR_nameOf (xz_l X) C.2.2.2.2.2.2.1  ev10_) sz_AR_nameOf tz_AR_nameOf lk_AR_215 (by decide) rfl rfl (Nat.le_of_ble_eq_true rfl) rfl ?_
          refine jr_goto 84 93 C d_AR_draftItself_84 (by decide) ?_
          refine jr_sub [0, 1, 2, 3] rfl ?_
          exact t_AR_draftItself_93 C (f_AR_draftItself_37 fu) ih x1 x2 x3 v10_ m h
def f_AR_draftItself_32 (x1 : Int32) (x2 : Int32) (s0 : Int32) (m : jz_M) : Option (jz_M) :=
  (jz_bo s0).bind fun b1_ =>
  jz_n (jz_up m 146 2 b1_) fun m2_ =>
  f_AR_draftItself_37 1000 x1 x2 0 m2_
set_option maxHeartbeats 4000000 in
set_option maxRecDepth 100000 in
theorem t_AR_draftItself_32 {Z : cz_Z} {X : jz_X} {r : jz_M} (C : jz_C X 6 b_AR_draftItself R_AR none rm_AR_draftItself (cz_G Z)) : ∀ (x1 : Int32) (x2 : Int32) (s0 : Int32) (m : jz_M) , f_AR_draftItself_32 x1 x2 s0 m = some r → jz_J X 6 (cz_G Z) (jz_q X (cz_G Z) none r) m [(0, .ref (gz_ad (cz_G Z) 0)), (1, .int x1), (2, .int x2)] 32 [.int s0, .ref (gz_ad (cz_G Z) 146)] := by
  intro x1 x2 s0 m h
  unfold f_AR_draftItself_32 at h
  obtain ⟨b1_, eb1_, h⟩ := jz_b h
  refine jr_top (jz_bo_eq eb1_) ?_
  obtain ⟨m2_, em2_, h⟩ := jz_ne h
  refine pf_AR_208 32 C d_AR_draftItself_32 (jz_bo_n eb1_) ?_
  refine jr_mem em2_ ?_
  refine jr_iconst 35 0 C d_AR_draftItself_35 (by decide) ?_
  refine jr_istore_n 36 [(0, .ref (gz_ad (cz_G Z) 0)), (1, .int x1), (2, .int x2), (3, .int 0)] C d_AR_draftItself_36 rfl (by decide) rfl ?_
  refine jr_sub [0, 1, 2, 3] rfl ?_
  exact t_AR_draftItself_37 C 1000 x1 x2 0 m2_ h
def f_AR_draftItself_31 (x1 : Int32) (x2 : Int32) (m : jz_M) : Option (jz_M) :=
  f_AR_draftItself_32 x1 x2 0 m
set_option maxHeartbeats 4000000 in
set_option maxRecDepth 100000 in
theorem t_AR_draftItself_31 {Z : cz_Z} {X : jz_X} {r : jz_M} (C : jz_C X 6 b_AR_draftItself R_AR none rm_AR_draftItself (cz_G Z)) : ∀ (x1 : Int32) (x2 : Int32) (m : jz_M) , f_AR_draftItself_31 x1 x2 m = some r → jz_J X 6 (cz_G Z) (jz_q X (cz_G Z) none r) m [(0, .ref (gz_ad (cz_G Z) 0)), (1, .int x1), (2, .int x2)] 31 [.ref (gz_ad (cz_G Z) 146)] := by
  intro x1 x2 m h
  unfold f_AR_draftItself_31 at h
  refine jr_iconst 31 0 C d_AR_draftItself_31 (by decide) ?_
  refine jr_sub [0, 1, 2] rfl ?_
  exact t_AR_draftItself_32 C x1 x2 0 m h
def f_AR_draftItself (a1 : Int32) (a2 : Int32) (m : jz_M) : Option (jz_M) :=
  if ¬ a2 = 1 then
    f_AR_draftItself_31 a1 a2 m
  else
    (jz_ix 6 a1).bind fun j2_ =>
    if ¬ (m 2 j2_) = 3 then
      f_AR_draftItself_31 a1 a2 m
    else
      (f_AR_hasLevelTwoNeighbourElsewhere a1 m).bind fun v4_ =>
      if v4_ = 0 then
        f_AR_draftItself_31 a1 a2 m
      else
        f_AR_draftItself_32 a1 a2 1 m
set_option maxHeartbeats 4000000 in
set_option maxRecDepth 100000 in
theorem c_AR_draftItself {Z : cz_Z} (l : Launch) (hI : jz_I (cz_G Z)) {a1 : Int32} {a2 : Int32} {m : jz_M} {r : jz_M} (h : f_AR_draftItself a1 a2 m = some r) : jz_m l y_AR_draftItself cd_AR_draftItself rm_AR_draftItself (cz_G Z) [.ref (gz_ad (cz_G Z) 0), .int a1, .int a2] m none r := by
  refine jz_met (own := R_AR) (by decide) rfl hI (Nat.le_of_ble_eq_true rfl) (fun X hX C => ?_)
  subst hX
  show jz_J X 6 (cz_G Z) _ m [(0, .ref (gz_ad (cz_G Z) 0)), (1, .int a1), (2, .int a2)] 0 []
  unfold f_AR_draftItself at h
  refine jr_aload_n 0 C d_AR_draftItself_0 rfl ?_
  refine gf_AR_40 1 C d_AR_draftItself_1 ?_
  refine jr_iload_n 4 C d_AR_draftItself_4 rfl ?_
  refine jr_iconst 5 1 C d_AR_draftItself_5 (by decide) ?_
  refine jr_icmp_ne 6 31 C d_AR_draftItself_6 (by decide) (fun c1_ => ?_) (fun c1_ => ?_)
  · have h := jz_t c1_ h
    refine jr_sub [0, 1, 2] rfl ?_
    exact t_AR_draftItself_31 C  a1 a2 m h
  · have h := jz_f c1_ h
    refine jr_aload_n 9 C d_AR_draftItself_9 rfl ?_
    refine gf_AR_13 10 C d_AR_draftItself_10 ?_
    refine jr_iload_n 13 C d_AR_draftItself_13 rfl ?_
    obtain ⟨j2_, ej2_, h⟩ := jz_b h
    refine jr_iald 14 C d_AR_draftItself_14 zk_AR_levelSets ej2_ ?_
    refine jr_iconst 15 3 C d_AR_draftItself_15 (by decide) ?_
    refine jr_icmp_ne 16 31 C d_AR_draftItself_16 (by decide) (fun c3_ => ?_) (fun c3_ => ?_)
    · have h := jz_t c3_ h
      refine jr_sub [0, 1, 2] rfl ?_
      exact t_AR_draftItself_31 C  a1 a2 m h
    · have h := jz_f c3_ h
      refine jr_aload_n 19 C d_AR_draftItself_19 rfl ?_
      refine jr_iload_n 20 C d_AR_draftItself_20 rfl ?_
      obtain ⟨v4_, ev4_, h⟩ := jz_b h
      refine jr_callV 21 [.int a1] C d_AR_draftItself_21 (c_AR_hasLevelTwoNeighbourElsewhere (xz_l X) C.2.2.2.2.2.2.1  ev4_) sz_AR_hasLevelTwoNeighbourElsewhere tz_AR_hasLevelTwoNeighbourElsewhere lk_AR_205 oz_AR rfl (by decide) rfl rfl (Nat.le_of_ble_eq_true rfl) rfl ?_
      refine jr_if_eq 24 31 C d_AR_draftItself_24 (by decide) (fun c5_ => ?_) (fun c5_ => ?_)
      · have h := jz_t c5_ h
        refine jr_sub [0, 1, 2] rfl ?_
        exact t_AR_draftItself_31 C  a1 a2 m h
      · have h := jz_f c5_ h
        refine jr_iconst 27 1 C d_AR_draftItself_27 (by decide) ?_
        refine jr_goto 28 32 C d_AR_draftItself_28 (by decide) ?_
        refine jr_sub [0, 1, 2] rfl ?_
        exact t_AR_draftItself_32 C  a1 a2 1 m h
abbrev rm_AR_draftCircuit : Room := { frames := 3, cells := 0, slots := 0, locals := 66 }
abbrev cd_AR_draftCircuit : Cond := .code y_AR_draftCircuit b_AR_draftCircuit 6 (some .boolean)
def f_AR_draftCircuit_57 : Nat → Int32 → Int32 → Nat → Int32 → jz_M → Option (Int32 × jz_M)
  | 0, _, _, _, _, _ => none
  | fu + 1, x1, x3, o4, x5, m =>
    if 6 ≤ x5 then
      some (1, m)
    else
      (f_He_isMutual o4 x1 x3 x5 m).bind fun v2_ =>
      if v2_ = 0 then
        jz_n (x5 + 1) fun x4_ =>
        f_AR_draftCircuit_57 fu x1 x3 o4 x4_ m
      else
        (f_AR_nameOf x5 0 m).bind fun v5_ =>
        (f_Dr_addLink v5_ 0 m).bind fun v6_ =>
        jz_n (x5 + 1) fun x7_ =>
        f_AR_draftCircuit_57 fu x1 x3 o4 x7_ v6_
set_option maxHeartbeats 4000000 in
set_option maxRecDepth 100000 in
theorem t_AR_draftCircuit_57 {Z : cz_Z} {X : jz_X} {r : Int32 × jz_M} (C : jz_C X 6 b_AR_draftCircuit R_AR (some .boolean) rm_AR_draftCircuit (cz_G Z)) : ∀ (fu : Nat) (x1 : Int32) (x3 : Int32) (o4 : Nat) (x5 : Int32) (m : jz_M) , kz_He o4 → f_AR_draftCircuit_57 fu x1 x3 o4 x5 m = some r → jz_J X 6 (cz_G Z) (jz_q X (cz_G Z) (some (.int r.1)) r.2) m [(0, .ref (gz_ad (cz_G Z) 0)), (1, .int x1), (3, .int x3), (4, .ref (gz_ad (cz_G Z) o4)), (5, .int x5)] 57 [] := by
  intro fu
  induction fu with
  | zero => intro x1 x3 o4 x5 m k4 h; cases h
  | succ fu ih =>
    intro x1 x3 o4 x5 m k4 h
    rw [f_AR_draftCircuit_57] at h
    refine jr_iload 57 C d_AR_draftCircuit_57 rfl ?_
    refine jr_bipush 59 6 C d_AR_draftCircuit_59 (by decide) ?_
    refine jr_icmp_ge 61 96 C d_AR_draftCircuit_61 (by decide) (fun c1_ => ?_) (fun c1_ => ?_)
    · have h := jz_t c1_ h
      refine jr_iconst 96 1 C d_AR_draftCircuit_96 (by decide) ?_
      obtain rfl := Option.some.inj h
      exact jr_zret 97 (v := 1) C d_AR_draftCircuit_97 rfl nb_1
    · have h := jz_f c1_ h
      refine jr_aload 64 C d_AR_draftCircuit_64 rfl ?_
      refine jr_iload_n 66 C d_AR_draftCircuit_66 rfl ?_
      refine jr_iload_n 67 C d_AR_draftCircuit_67 rfl ?_
      refine jr_iload 68 C d_AR_draftCircuit_68 rfl ?_
      obtain ⟨v2_, ev2_, h⟩ := jz_b h
      refine jr_callVN 70 [.int x1, .int x3, .int x5] C d_AR_draftCircuit_70 (c_He_isMutual (xz_l X) C.2.2.2.2.2.2.1 k4 ev2_) sz_He_isMutual tz_He_isMutual lk_AR_154 (oz_He k4) rfl (by decide) rfl rfl (Nat.le_of_ble_eq_true rfl) rfl ?_
      refine jr_if_eq 73 90 C d_AR_draftCircuit_73 (by decide) (fun c3_ => ?_) (fun c3_ => ?_)
      · have h := jz_t c3_ h
        obtain ⟨x4_, ex4_, h⟩ := jz_ne h
        refine jr_iinc 90 [(0, .ref (gz_ad (cz_G Z) 0)), (1, .int x1), (3, .int x3), (4, .ref (gz_ad (cz_G Z) o4)), (5, .int x4_)] C d_AR_draftCircuit_90 rfl (by decide) rfl (by rw [ex4_]; rfl) rfl ?_
        refine jr_goto 93 57 C d_AR_draftCircuit_93 (by decide) ?_
        refine jr_sub [0, 1, 2, 3, 4] rfl ?_
        exact ih x1 x3 o4 x4_ m k4 h
      · have h := jz_f c3_ h
        refine jr_aload_n 76 C d_AR_draftCircuit_76 rfl ?_
        refine gf_AR_40 77 C d_AR_draftCircuit_77 ?_
        refine jr_iload 80 C d_AR_draftCircuit_80 rfl ?_
        refine jr_iconst 82 0 C d_AR_draftCircuit_82 (by decide) ?_
        obtain ⟨v5_, ev5_, h⟩ := jz_b h
        refine jr_callS 83 [.int x5, .int 0] C d_AR_draftCircuit_83 (c_AR_nameOf (xz_l X) C.2.2.2.2.2.2.1  ev5_) sz_AR_nameOf tz_AR_nameOf lk_AR_215 (by decide) rfl rfl (Nat.le_of_ble_eq_true rfl) rfl ?_
        refine jr_iconst 86 0 C d_AR_draftCircuit_86 (by decide) ?_
        obtain ⟨v6_, ev6_, h⟩ := jz_b h
        refine jr_callVN 87 [.int v5_, .int 0] C d_AR_draftCircuit_87 (c_Dr_addLink (xz_l X) C.2.2.2.2.2.2.1  ev6_) sz_Dr_addLink tz_Dr_addLink lk_AR_221 oz_Dr rfl (by decide) rfl rfl (Nat.le_of_ble_eq_true rfl) rfl ?_
        obtain ⟨x7_, ex7_, h⟩ := jz_ne h
        refine jr_iinc 90 [(0, .ref (gz_ad (cz_G Z) 0)), (1, .int x1), (3, .int x3), (4, .ref (gz_ad (cz_G Z) o4)), (5, .int x7_)] C d_AR_draftCircuit_90 rfl (by decide) rfl (by rw [ex7_]; rfl) rfl ?_
        refine jr_goto 93 57 C d_AR_draftCircuit_93 (by decide) ?_
        refine jr_sub [0, 1, 2, 3, 4] rfl ?_
        exact ih x1 x3 o4 x7_ v6_ k4 h
def f_AR_draftCircuit (a1 : Int32) (a2 : Int32) (a3 : Int32) (m : jz_M) : Option (Int32 × jz_M) :=
  (f_AR_hearingAt a2 m).bind fun v1_ =>
  (f_Wi_isShared a3 m).bind fun v2_ =>
  if v2_ = 0 then
    some (0, m)
  else
    (f_He_firstMutual v1_ a1 a3 m).bind fun v4_ =>
    if v4_ < 0 then
      some (0, m)
    else
      (f_AR_speakerSeenBy a1 a3 a2 m).bind fun v6_ =>
      if v6_ = a1 then
        (f_AR_nameOf a1 0 m).bind fun v8_ =>
        (f_Dr_addLink v8_ 0 m).bind fun v9_ =>
        f_AR_draftCircuit_57 1000 a1 a3 v1_ 0 v9_
      else
        some (0, m)
set_option maxHeartbeats 4000000 in
set_option maxRecDepth 100000 in
theorem c_AR_draftCircuit {Z : cz_Z} (l : Launch) (hI : jz_I (cz_G Z)) {a1 : Int32} {a2 : Int32} {a3 : Int32} {m : jz_M} {r : Int32 × jz_M} (h : f_AR_draftCircuit a1 a2 a3 m = some r) : jz_m l y_AR_draftCircuit cd_AR_draftCircuit rm_AR_draftCircuit (cz_G Z) [.ref (gz_ad (cz_G Z) 0), .int a1, .int a2, .int a3] m (some (.int r.1)) r.2 := by
  refine jz_met (own := R_AR) (by decide) rfl hI (Nat.le_of_ble_eq_true rfl) (fun X hX C => ?_)
  subst hX
  show jz_J X 6 (cz_G Z) _ m [(0, .ref (gz_ad (cz_G Z) 0)), (1, .int a1), (2, .int a2), (3, .int a3)] 0 []
  unfold f_AR_draftCircuit at h
  refine jr_aload_n 0 C d_AR_draftCircuit_0 rfl ?_
  refine jr_iload_n 1 C d_AR_draftCircuit_1 rfl ?_
  obtain ⟨v1_, ev1_, h⟩ := jz_b h
  refine jr_callV 2 [.int a2] C d_AR_draftCircuit_2 (c_AR_hearingAt (xz_l X) C.2.2.2.2.2.2.1 ev1_) sz_AR_hearingAt tz_AR_hearingAt lk_AR_150 oz_AR rfl (by decide) rfl rfl (Nat.le_of_ble_eq_true rfl) rfl ?_
  refine jr_astore 5 [(0, .ref (gz_ad (cz_G Z) 0)), (1, .int a1), (2, .int a2), (3, .int a3), (4, .ref (gz_ad (cz_G Z) v1_))] C d_AR_draftCircuit_5 rfl (by decide) rfl ?_
  refine jr_aload_n 7 C d_AR_draftCircuit_7 rfl ?_
  refine gf_AR_19 8 C d_AR_draftCircuit_8 ?_
  refine jr_iload_n 11 C d_AR_draftCircuit_11 rfl ?_
  obtain ⟨v2_, ev2_, h⟩ := jz_b h
  refine jr_callVN 12 [.int a3] C d_AR_draftCircuit_12 (c_Wi_isShared (xz_l X) C.2.2.2.2.2.2.1 ev2_) sz_Wi_isShared tz_Wi_isShared lk_AR_102 oz_Wi rfl (by decide) rfl rfl (Nat.le_of_ble_eq_true rfl) rfl ?_
  refine jr_if_eq 15 39 C d_AR_draftCircuit_15 (by decide) (fun c3_ => ?_) (fun c3_ => ?_)
  · have h := jz_t c3_ h
    refine jr_iconst 39 0 C d_AR_draftCircuit_39 (by decide) ?_
    obtain rfl := Option.some.inj h
    exact jr_zret 40 (v := 0) C d_AR_draftCircuit_40 rfl nb_0
  · have h := jz_f c3_ h
    refine jr_aload 18 C d_AR_draftCircuit_18 rfl ?_
    refine jr_iload_n 20 C d_AR_draftCircuit_20 rfl ?_
    refine jr_iload_n 21 C d_AR_draftCircuit_21 rfl ?_
    obtain ⟨v4_, ev4_, h⟩ := jz_b h
    refine jr_callVN 22 [.int a1, .int a3] C d_AR_draftCircuit_22 (c_He_firstMutual (xz_l X) C.2.2.2.2.2.2.1 (kr_AR_hearingAt ev1_) ev4_) sz_He_firstMutual tz_He_firstMutual lk_AR_212 (oz_He (kr_AR_hearingAt ev1_)) rfl (by decide) rfl rfl (Nat.le_of_ble_eq_true rfl) rfl ?_
    refine jr_if_lt 25 39 C d_AR_draftCircuit_25 (by decide) (fun c5_ => ?_) (fun c5_ => ?_)
    · have h := jz_t c5_ h
      refine jr_iconst 39 0 C d_AR_draftCircuit_39 (by decide) ?_
      obtain rfl := Option.some.inj h
      exact jr_zret 40 (v := 0) C d_AR_draftCircuit_40 rfl nb_0
    · have h := jz_f c5_ h
      refine jr_aload_n 28 C d_AR_draftCircuit_28 rfl ?_
      refine jr_iload_n 29 C d_AR_draftCircuit_29 rfl ?_
      refine jr_iload_n 30 C d_AR_draftCircuit_30 rfl ?_
      refine jr_iload_n 31 C d_AR_draftCircuit_31 rfl ?_
      obtain ⟨v6_, ev6_, h⟩ := jz_b h
      refine jr_callV 32 [.int a1, .int a3, .int a2] C d_AR_draftCircuit_32 (c_AR_speakerSeenBy (xz_l X) C.2.2.2.2.2.2.1  ev6_) sz_AR_speakerSeenBy tz_AR_speakerSeenBy lk_AR_157 oz_AR rfl (by decide) rfl rfl (Nat.le_of_ble_eq_true rfl) rfl ?_
      refine jr_iload_n 35 C d_AR_draftCircuit_35 rfl ?_
      refine jr_icmp_eq 36 41 C d_AR_draftCircuit_36 (by decide) (fun c7_ => ?_) (fun c7_ => ?_)
      · have h := jz_t c7_ h
        refine jr_aload_n 41 C d_AR_draftCircuit_41 rfl ?_
        refine gf_AR_40 42 C d_AR_draftCircuit_42 ?_
        refine jr_iload_n 45 C d_AR_draftCircuit_45 rfl ?_
        refine jr_iconst 46 0 C d_AR_draftCircuit_46 (by decide) ?_
        obtain ⟨v8_, ev8_, h⟩ := jz_b h
        refine jr_callS 47 [.int a1, .int 0] C d_AR_draftCircuit_47 (c_AR_nameOf (xz_l X) C.2.2.2.2.2.2.1  ev8_) sz_AR_nameOf tz_AR_nameOf lk_AR_215 (by decide) rfl rfl (Nat.le_of_ble_eq_true rfl) rfl ?_
        refine jr_iconst 50 0 C d_AR_draftCircuit_50 (by decide) ?_
        obtain ⟨v9_, ev9_, h⟩ := jz_b h
        refine jr_callVN 51 [.int v8_, .int 0] C d_AR_draftCircuit_51 (c_Dr_addLink (xz_l X) C.2.2.2.2.2.2.1  ev9_) sz_Dr_addLink tz_Dr_addLink lk_AR_221 oz_Dr rfl (by decide) rfl rfl (Nat.le_of_ble_eq_true rfl) rfl ?_
        refine jr_iconst 54 0 C d_AR_draftCircuit_54 (by decide) ?_
        refine jr_istore 55 [(0, .ref (gz_ad (cz_G Z) 0)), (1, .int a1), (2, .int a2), (3, .int a3), (4, .ref (gz_ad (cz_G Z) v1_)), (5, .int 0)] C d_AR_draftCircuit_55 rfl (by decide) rfl ?_
        refine jr_sub [0, 1, 3, 4, 5] rfl ?_
        exact t_AR_draftCircuit_57 C  1000 a1 a3 v1_ 0 v9_ (kr_AR_hearingAt ev1_) h
      · have h := jz_f c7_ h
        refine jr_iconst 39 0 C d_AR_draftCircuit_39 (by decide) ?_
        obtain rfl := Option.some.inj h
        exact jr_zret 40 (v := 0) C d_AR_draftCircuit_40 rfl nb_0
abbrev rm_AR_draftPart : Room := { frames := 4, cells := 0, slots := 0, locals := 91 }
abbrev cd_AR_draftPart : Cond := .code y_AR_draftPart b_AR_draftPart 4 (some .boolean)
def f_AR_draftPart (a1 : Int32) (a2 : Int32) (a3 : Int32) (m : jz_M) : Option (Int32 × jz_M) :=
  (jz_ix 6 a1).bind fun j1_ =>
  (f_Dr_begin (m 1 j1_) m).bind fun v2_ =>
  if ¬ a3 = 0 then
    (f_AR_draftCircuit a1 a2 (a3 - 1) v2_).bind fun v4_ =>
    (jz_bo v4_.1).bind fun b5_ =>
    some (b5_, v4_.2)
  else
    (f_AR_draftItself a1 a2 v2_).bind fun v6_ =>
    some (1, v6_)
set_option maxHeartbeats 4000000 in
set_option maxRecDepth 100000 in
theorem c_AR_draftPart {Z : cz_Z} (l : Launch) (hI : jz_I (cz_G Z)) {a1 : Int32} {a2 : Int32} {a3 : Int32} {m : jz_M} {r : Int32 × jz_M} (h : f_AR_draftPart a1 a2 a3 m = some r) : jz_m l y_AR_draftPart cd_AR_draftPart rm_AR_draftPart (cz_G Z) [.ref (gz_ad (cz_G Z) 0), .int a1, .int a2, .int a3] m (some (.int r.1)) r.2 := by
  refine jz_met (own := R_AR) (by decide) rfl hI (Nat.le_of_ble_eq_true rfl) (fun X hX C => ?_)
  subst hX
  show jz_J X 4 (cz_G Z) _ m [(0, .ref (gz_ad (cz_G Z) 0)), (1, .int a1), (2, .int a2), (3, .int a3)] 0 []
  unfold f_AR_draftPart at h
  refine jr_aload_n 0 C d_AR_draftPart_0 rfl ?_
  refine gf_AR_40 1 C d_AR_draftPart_1 ?_
  refine jr_aload_n 4 C d_AR_draftPart_4 rfl ?_
  refine gf_AR_9 5 C d_AR_draftPart_5 ?_
  refine jr_iload_n 8 C d_AR_draftPart_8 rfl ?_
  obtain ⟨j1_, ej1_, h⟩ := jz_b h
  refine jr_iald 9 C d_AR_draftPart_9 zk_AR_areas ej1_ ?_
  obtain ⟨v2_, ev2_, h⟩ := jz_b h
  refine jr_callVN 10 [.int (m 1 j1_)] C d_AR_draftPart_10 (c_Dr_begin (xz_l X) C.2.2.2.2.2.2.1 ev2_) sz_Dr_begin tz_Dr_begin lk_AR_196 oz_Dr rfl (by decide) rfl rfl (Nat.le_of_ble_eq_true rfl) rfl ?_
  refine jr_iload_n 13 C d_AR_draftPart_13 rfl ?_
  refine jr_if_ne 14 25 C d_AR_draftPart_14 (by decide) (fun c3_ => ?_) (fun c3_ => ?_)
  · have h := jz_t c3_ h
    refine jr_aload_n 25 C d_AR_draftPart_25 rfl ?_
    refine jr_iload_n 26 C d_AR_draftPart_26 rfl ?_
    refine jr_iload_n 27 C d_AR_draftPart_27 rfl ?_
    refine jr_iload_n 28 C d_AR_draftPart_28 rfl ?_
    refine jr_iconst 29 1 C d_AR_draftPart_29 (by decide) ?_
    refine jr_isub 30 C d_AR_draftPart_30 ?_
    obtain ⟨v4_, ev4_, h⟩ := jz_b h
    refine jr_callV 31 [.int a1, .int a2, .int (a3 - 1)] C d_AR_draftPart_31 (c_AR_draftCircuit (xz_l X) C.2.2.2.2.2.2.1  ev4_) sz_AR_draftCircuit tz_AR_draftCircuit lk_AR_202 oz_AR rfl (by decide) rfl rfl (Nat.le_of_ble_eq_true rfl) rfl ?_
    obtain ⟨b5_, eb5_, h⟩ := jz_b h
    refine jr_top (jz_bo_eq eb5_) ?_
    obtain rfl := Option.some.inj h
    exact jr_zret 34 (v := b5_) C d_AR_draftPart_34 rfl (jz_bo_n eb5_).1
  · have h := jz_f c3_ h
    refine jr_aload_n 17 C d_AR_draftPart_17 rfl ?_
    refine jr_iload_n 18 C d_AR_draftPart_18 rfl ?_
    refine jr_iload_n 19 C d_AR_draftPart_19 rfl ?_
    obtain ⟨v6_, ev6_, h⟩ := jz_b h
    refine jr_callV 20 [.int a1, .int a2] C d_AR_draftPart_20 (c_AR_draftItself (xz_l X) C.2.2.2.2.2.2.1  ev6_) sz_AR_draftItself tz_AR_draftItself lk_AR_199 oz_AR rfl (by decide) rfl rfl (Nat.le_of_ble_eq_true rfl) rfl ?_
    refine jr_iconst 23 1 C d_AR_draftPart_23 (by decide) ?_
    obtain rfl := Option.some.inj h
    exact jr_zret 24 (v := 1) C d_AR_draftPart_24 rfl nb_1
abbrev rm_Ba_renew : Room := { frames := 1, cells := 0, slots := 0, locals := 25 }
abbrev cd_Ba_renew : Cond := .code y_Ba_renew b_Ba_renew 4 none
def f_Ba_renew (o0 : Nat) (a1 : Int32) (a3 : Int32) (m : jz_M) : Option (jz_M) :=
  (jz_ix 42 a1).bind fun j1_ =>
  (jz_ix 42 a1).bind fun j2_ =>
  jz_n (jz_up m (o0 + 2) j2_ ((m (o0 + 2) j1_) + 1)) fun m3_ =>
  (jz_ix 42 a1).bind fun j4_ =>
  (jz_ix 42 a1).bind fun j5_ =>
  jz_n (jz_up m3_ (o0 + 1) j5_ (m3_ (o0 + 2) j4_)) fun m6_ =>
  (jz_ix 42 a1).bind fun j7_ =>
  jz_n (jz_up m6_ (o0 + 3) j7_ 20) fun m8_ =>
  (jz_ix 42 a1).bind fun j9_ =>
  jz_n (jz_up m8_ (o0 + 5) j9_ (vp_nar .boolean (m8_ 146 2))) fun m10_ =>
  (jz_ix 42 a1).bind fun j11_ =>
  jz_n (jz_up m10_ (o0 + 6) j11_ (m10_ 146 1)) fun m12_ =>
  (f_Ba_takeLinks o0 a1 147 10 0 (m12_ 146 0) m12_).bind fun v13_ =>
  (jz_ix 42 a1).bind fun j14_ =>
  jz_n (jz_up v13_ (o0 + 9) j14_ a3) fun m15_ =>
  (jz_ix 42 a1).bind fun j16_ =>
  jz_n (jz_up m15_ (o0 + 10) j16_ 0) fun m17_ =>
  some m17_
set_option maxHeartbeats 4000000 in
set_option maxRecDepth 100000 in
theorem c_Ba_renew {Z : cz_Z} (l : Launch) (hI : jz_I (cz_G Z)) {o0 : Nat} {a1 : Int32} {a3 : Int32} {m : jz_M} {r : jz_M} (ko0 : kz_Ba o0) (h : f_Ba_renew o0 a1 a3 m = some r) : jz_m l y_Ba_renew cd_Ba_renew rm_Ba_renew (cz_G Z) [.ref (gz_ad (cz_G Z) o0), .int a1, .ref (gz_ad (cz_G Z) 146), .int a3] m none r := by
  refine jz_met (own := R_Ba) (by decide) rfl hI (Nat.le_of_ble_eq_true rfl) (fun X hX C => ?_)
  subst hX
  show jz_J X 4 (cz_G Z) _ m [(0, .ref (gz_ad (cz_G Z) o0)), (1, .int a1), (2, .ref (gz_ad (cz_G Z) 146)), (3, .int a3)] 0 []
  unfold f_Ba_renew at h
  refine jr_aload_n 0 C d_Ba_renew_0 rfl ?_
  refine gf_Ba_15 1 C d_Ba_renew_1 ko0 ?_
  refine jr_iload_n 4 C d_Ba_renew_4 rfl ?_
  refine jr_dup2 5 C d_Ba_renew_5 rfl rfl ?_
  obtain ⟨j1_, ej1_, h⟩ := jz_b h
  refine jr_iald 6 C d_Ba_renew_6 (zk_Ba_greatest ko0) ej1_ ?_
  refine jr_iconst 7 1 C d_Ba_renew_7 (by decide) ?_
  refine jr_iadd 8 C d_Ba_renew_8 ?_
  obtain ⟨j2_, ej2_, h⟩ := jz_b h
  obtain ⟨m3_, em3_, h⟩ := jz_ne h
  refine jr_iast 9 C d_Ba_renew_9 (zk_Ba_greatest ko0) ej2_ ?_
  refine jr_mem em3_ ?_
  refine jr_aload_n 10 C d_Ba_renew_10 rfl ?_
  refine gf_Ba_9 11 C d_Ba_renew_11 ko0 ?_
  refine jr_iload_n 14 C d_Ba_renew_14 rfl ?_
  refine jr_aload_n 15 C d_Ba_renew_15 rfl ?_
  refine gf_Ba_15 16 C d_Ba_renew_16 ko0 ?_
  refine jr_iload_n 19 C d_Ba_renew_19 rfl ?_
  obtain ⟨j4_, ej4_, h⟩ := jz_b h
  refine jr_iald 20 C d_Ba_renew_20 (zk_Ba_greatest ko0) ej4_ ?_
  obtain ⟨j5_, ej5_, h⟩ := jz_b h
  obtain ⟨m6_, em6_, h⟩ := jz_ne h
  refine jr_iast 21 C d_Ba_renew_21 (zk_Ba_sequences ko0) ej5_ ?_
  refine jr_mem em6_ ?_
  refine jr_aload_n 22 C d_Ba_renew_22 rfl ?_
  refine gf_Ba_18 23 C d_Ba_renew_23 ko0 ?_
  refine jr_iload_n 26 C d_Ba_renew_26 rfl ?_
  refine jr_bipush 27 20 C d_Ba_renew_27 (by decide) ?_
  obtain ⟨j7_, ej7_, h⟩ := jz_b h
  obtain ⟨m8_, em8_, h⟩ := jz_ne h
  refine jr_iast 29 C d_Ba_renew_29 (zk_Ba_lives ko0) ej7_ ?_
  refine jr_mem em8_ ?_
  refine jr_aload_n 30 C d_Ba_renew_30 rfl ?_
  refine gf_Ba_24 31 C d_Ba_renew_31 ko0 ?_
  refine jr_iload_n 34 C d_Ba_renew_34 rfl ?_
  refine jr_aload_n 35 C d_Ba_renew_35 rfl ?_
  refine gf_Ba_69 36 C d_Ba_renew_36 ?_
  obtain ⟨j9_, ej9_, h⟩ := jz_b h
  obtain ⟨m10_, em10_, h⟩ := jz_ne h
  refine jr_zast 39 C d_Ba_renew_39 (zk_Ba_exits ko0) ej9_ ?_
  refine jr_mem em10_ ?_
  refine jr_aload_n 40 C d_Ba_renew_40 rfl ?_
  refine gf_Ba_28 41 C d_Ba_renew_41 ko0 ?_
  refine jr_iload_n 44 C d_Ba_renew_44 rfl ?_
  refine jr_aload_n 45 C d_Ba_renew_45 rfl ?_
  refine gf_Ba_80 46 C d_Ba_renew_46 ?_
  obtain ⟨j11_, ej11_, h⟩ := jz_b h
  obtain ⟨m12_, em12_, h⟩ := jz_ne h
  refine jr_iast 49 C d_Ba_renew_49 (zk_Ba_areas ko0) ej11_ ?_
  refine jr_mem em12_ ?_
  refine jr_aload_n 50 C d_Ba_renew_50 rfl ?_
  refine jr_iload_n 51 C d_Ba_renew_51 rfl ?_
  refine jr_aload_n 52 C d_Ba_renew_52 rfl ?_
  refine gf_Ba_79 53 C d_Ba_renew_53 ?_
  refine jr_iconst 56 0 C d_Ba_renew_56 (by decide) ?_
  refine jr_aload_n 57 C d_Ba_renew_57 rfl ?_
  refine gf_Ba_75 58 C d_Ba_renew_58 ?_
  obtain ⟨v13_, ev13_, h⟩ := jz_b h
  refine jr_callV 61 [.int a1, .ref (gz_ad (cz_G Z) 147), .int 0, .int (m12_ 146 0)] C d_Ba_renew_61 (c_Ba_takeLinks (xz_l X) C.2.2.2.2.2.2.1 ko0 zk_Dr_links ev13_) sz_Ba_takeLinks tz_Ba_takeLinks lk_Ba_83 (oz_Ba ko0) rfl (by decide) rfl rfl (Nat.le_of_ble_eq_true rfl) rfl ?_
  refine jr_aload_n 64 C d_Ba_renew_64 rfl ?_
  refine gf_Ba_37 65 C d_Ba_renew_65 ko0 ?_
  refine jr_iload_n 68 C d_Ba_renew_68 rfl ?_
  refine jr_iload_n 69 C d_Ba_renew_69 rfl ?_
  obtain ⟨j14_, ej14_, h⟩ := jz_b h
  obtain ⟨m15_, em15_, h⟩ := jz_ne h
  refine jr_iast 70 C d_Ba_renew_70 (zk_Ba_due ko0) ej14_ ?_
  refine jr_mem em15_ ?_
  refine jr_aload_n 71 C d_Ba_renew_71 rfl ?_
  refine gf_Ba_40 72 C d_Ba_renew_72 ko0 ?_
  refine jr_iload_n 75 C d_Ba_renew_75 rfl ?_
  refine jr_iconst 76 0 C d_Ba_renew_76 (by decide) ?_
  obtain ⟨j16_, ej16_, h⟩ := jz_b h
  obtain ⟨m17_, em17_, h⟩ := jz_ne h
  refine jr_iast 77 C d_Ba_renew_77 (zk_Ba_asked ko0) ej16_ ?_
  refine jr_mem em17_ ?_
  obtain rfl := Option.some.inj h
  exact jr_vret 78 C d_Ba_renew_78 rfl
abbrev rm_Ba_end : Room := { frames := 0, cells := 0, slots := 0, locals := 0 }
abbrev cd_Ba_end : Cond := .code y_Ba_end b_Ba_end 3 none
def f_Ba_end (o0 : Nat) (a1 : Int32) (a2 : Int32) (m : jz_M) : Option (jz_M) :=
  (jz_ix 42 a1).bind fun j1_ =>
  jz_n (jz_up m (o0 + 3) j1_ 0) fun m2_ =>
  (jz_ix 42 a1).bind fun j3_ =>
  jz_n (jz_up m2_ (o0 + 4) j3_ 0) fun m4_ =>
  (jz_ix 42 a1).bind fun j5_ =>
  jz_n (jz_up m4_ (o0 + 9) j5_ a2) fun m6_ =>
  some m6_
set_option maxHeartbeats 4000000 in
set_option maxRecDepth 100000 in
theorem c_Ba_end {Z : cz_Z} (l : Launch) (hI : jz_I (cz_G Z)) {o0 : Nat} {a1 : Int32} {a2 : Int32} {m : jz_M} {r : jz_M} (ko0 : kz_Ba o0) (h : f_Ba_end o0 a1 a2 m = some r) : jz_m l y_Ba_end cd_Ba_end rm_Ba_end (cz_G Z) [.ref (gz_ad (cz_G Z) o0), .int a1, .int a2] m none r := by
  refine jz_met (own := R_Ba) (by decide) rfl hI (Nat.le_of_ble_eq_true rfl) (fun X hX C => ?_)
  subst hX
  show jz_J X 3 (cz_G Z) _ m [(0, .ref (gz_ad (cz_G Z) o0)), (1, .int a1), (2, .int a2)] 0 []
  unfold f_Ba_end at h
  refine jr_aload_n 0 C d_Ba_end_0 rfl ?_
  refine gf_Ba_18 1 C d_Ba_end_1 ko0 ?_
  refine jr_iload_n 4 C d_Ba_end_4 rfl ?_
  refine jr_iconst 5 0 C d_Ba_end_5 (by decide) ?_
  obtain ⟨j1_, ej1_, h⟩ := jz_b h
  obtain ⟨m2_, em2_, h⟩ := jz_ne h
  refine jr_iast 6 C d_Ba_end_6 (zk_Ba_lives ko0) ej1_ ?_
  refine jr_mem em2_ ?_
  refine jr_aload_n 7 C d_Ba_end_7 rfl ?_
  refine gf_Ba_21 8 C d_Ba_end_8 ko0 ?_
  refine jr_iload_n 11 C d_Ba_end_11 rfl ?_
  refine jr_iconst 12 0 C d_Ba_end_12 (by decide) ?_
  obtain ⟨j3_, ej3_, h⟩ := jz_b h
  obtain ⟨m4_, em4_, h⟩ := jz_ne h
  refine jr_iast 13 C d_Ba_end_13 (zk_Ba_ticksAtRest ko0) ej3_ ?_
  refine jr_mem em4_ ?_
  refine jr_aload_n 14 C d_Ba_end_14 rfl ?_
  refine gf_Ba_37 15 C d_Ba_end_15 ko0 ?_
  refine jr_iload_n 18 C d_Ba_end_18 rfl ?_
  refine jr_iload_n 19 C d_Ba_end_19 rfl ?_
  obtain ⟨j5_, ej5_, h⟩ := jz_b h
  obtain ⟨m6_, em6_, h⟩ := jz_ne h
  refine jr_iast 20 C d_Ba_end_20 (zk_Ba_due ko0) ej5_ ?_
  refine jr_mem em6_ ?_
  obtain rfl := Option.some.inj h
  exact jr_vret 21 C d_Ba_end_21 rfl
abbrev rm_Ba_askNowhere : Room := { frames := 0, cells := 0, slots := 0, locals := 0 }
abbrev cd_Ba_askNowhere : Cond := .code y_Ba_askNowhere b_Ba_askNowhere 2 none
def f_Ba_askNowhere (o0 : Nat) (a1 : Int32) (m : jz_M) : Option (jz_M) :=
  (jz_ix 42 a1).bind fun j1_ =>
  jz_n (jz_up m (o0 + 10) j1_ 0) fun m2_ =>
  some m2_
set_option maxHeartbeats 4000000 in
set_option maxRecDepth 100000 in
theorem c_Ba_askNowhere {Z : cz_Z} (l : Launch) (hI : jz_I (cz_G Z)) {o0 : Nat} {a1 : Int32} {m : jz_M} {r : jz_M} (ko0 : kz_Ba o0) (h : f_Ba_askNowhere o0 a1 m = some r) : jz_m l y_Ba_askNowhere cd_Ba_askNowhere rm_Ba_askNowhere (cz_G Z) [.ref (gz_ad (cz_G Z) o0), .int a1] m none r := by
  refine jz_met (own := R_Ba) (by decide) rfl hI (Nat.le_of_ble_eq_true rfl) (fun X hX C => ?_)
  subst hX
  show jz_J X 2 (cz_G Z) _ m [(0, .ref (gz_ad (cz_G Z) o0)), (1, .int a1)] 0 []
  unfold f_Ba_askNowhere at h
  refine jr_aload_n 0 C d_Ba_askNowhere_0 rfl ?_
  refine gf_Ba_40 1 C d_Ba_askNowhere_1 ko0 ?_
  refine jr_iload_n 4 C d_Ba_askNowhere_4 rfl ?_
  refine jr_iconst 5 0 C d_Ba_askNowhere_5 (by decide) ?_
  obtain ⟨j1_, ej1_, h⟩ := jz_b h
  obtain ⟨m2_, em2_, h⟩ := jz_ne h
  refine jr_iast 6 C d_Ba_askNowhere_6 (zk_Ba_asked ko0) ej1_ ?_
  refine jr_mem em2_ ?_
  obtain rfl := Option.some.inj h
  exact jr_vret 7 C d_Ba_askNowhere_7 rfl
abbrev rm_AR_answerForOwn : Room := { frames := 5, cells := 0, slots := 0, locals := 114 }
abbrev cd_AR_answerForOwn : Cond := .code y_AR_answerForOwn b_AR_answerForOwn 5 none
def f_AR_answerForOwn (a1 : Int32) (a2 : Int32) (a3 : Int32) (m : jz_M) : Option (jz_M) :=
  (f_AR_baseOf a1 a2 m).bind fun v1_ =>
  (f_AR_partOf a3 m).bind fun v2_ =>
  (f_AR_draftPart a1 a2 v2_ m).bind fun v3_ =>
  if v3_.1 = 0 then
    (f_Wi_circuitsOf a1 v3_.2).bind fun v5_ =>
    (f_Ba_end v1_ a3 v5_ v3_.2).bind fun v6_ =>
    (f_Ba_askNowhere v1_ a3 v6_).bind fun v7_ =>
    some v7_
  else
    (f_Wi_circuitsOf a1 v3_.2).bind fun v8_ =>
    (f_Ba_renew v1_ a3 v8_ v3_.2).bind fun v9_ =>
    some v9_
set_option maxHeartbeats 4000000 in
set_option maxRecDepth 100000 in
theorem c_AR_answerForOwn {Z : cz_Z} (l : Launch) (hI : jz_I (cz_G Z)) {a1 : Int32} {a2 : Int32} {a3 : Int32} {m : jz_M} {r : jz_M} (h : f_AR_answerForOwn a1 a2 a3 m = some r) : jz_m l y_AR_answerForOwn cd_AR_answerForOwn rm_AR_answerForOwn (cz_G Z) [.ref (gz_ad (cz_G Z) 0), .int a1, .int a2, .int a3] m none r := by
  refine jz_met (own := R_AR) (by decide) rfl hI (Nat.le_of_ble_eq_true rfl) (fun X hX C => ?_)
  subst hX
  show jz_J X 5 (cz_G Z) _ m [(0, .ref (gz_ad (cz_G Z) 0)), (1, .int a1), (2, .int a2), (3, .int a3)] 0 []
  unfold f_AR_answerForOwn at h
  refine jr_aload_n 0 C d_AR_answerForOwn_0 rfl ?_
  refine jr_iload_n 1 C d_AR_answerForOwn_1 rfl ?_
  refine jr_iload_n 2 C d_AR_answerForOwn_2 rfl ?_
  obtain ⟨v1_, ev1_, h⟩ := jz_b h
  refine jr_callV 3 [.int a1, .int a2] C d_AR_answerForOwn_3 (c_AR_baseOf (xz_l X) C.2.2.2.2.2.2.1 ev1_) sz_AR_baseOf tz_AR_baseOf lk_AR_87 oz_AR rfl (by decide) rfl rfl (Nat.le_of_ble_eq_true rfl) rfl ?_
  refine jr_astore 6 [(0, .ref (gz_ad (cz_G Z) 0)), (1, .int a1), (2, .int a2), (3, .int a3), (4, .ref (gz_ad (cz_G Z) v1_))] C d_AR_answerForOwn_6 rfl (by decide) rfl ?_
  refine jr_aload_n 8 C d_AR_answerForOwn_8 rfl ?_
  refine jr_iload_n 9 C d_AR_answerForOwn_9 rfl ?_
  refine jr_iload_n 10 C d_AR_answerForOwn_10 rfl ?_
  refine jr_iload_n 11 C d_AR_answerForOwn_11 rfl ?_
  obtain ⟨v2_, ev2_, h⟩ := jz_b h
  refine jr_callS 12 [.int a3] C d_AR_answerForOwn_12 (c_AR_partOf (xz_l X) C.2.2.2.2.2.2.1 ev2_) sz_AR_partOf tz_AR_partOf lk_AR_257 (by decide) rfl rfl (Nat.le_of_ble_eq_true rfl) rfl ?_
  obtain ⟨v3_, ev3_, h⟩ := jz_b h
  refine jr_callV 15 [.int a1, .int a2, .int v2_] C d_AR_answerForOwn_15 (c_AR_draftPart (xz_l X) C.2.2.2.2.2.2.1 ev3_) sz_AR_draftPart tz_AR_draftPart lk_AR_224 oz_AR rfl (by decide) rfl rfl (Nat.le_of_ble_eq_true rfl) rfl ?_
  refine jr_if_eq 18 42 C d_AR_answerForOwn_18 (by decide) (fun c4_ => ?_) (fun c4_ => ?_)
  · have h := jz_t c4_ h
    refine jr_aload 42 C d_AR_answerForOwn_42 rfl ?_
    refine jr_iload_n 44 C d_AR_answerForOwn_44 rfl ?_
    refine jr_aload_n 45 C d_AR_answerForOwn_45 rfl ?_
    refine gf_AR_19 46 C d_AR_answerForOwn_46 ?_
    refine jr_iload_n 49 C d_AR_answerForOwn_49 rfl ?_
    obtain ⟨v5_, ev5_, h⟩ := jz_b h
    refine jr_callVN 50 [.int a1] C d_AR_answerForOwn_50 (c_Wi_circuitsOf (xz_l X) C.2.2.2.2.2.2.1  ev5_) sz_Wi_circuitsOf tz_Wi_circuitsOf lk_AR_55 oz_Wi rfl (by decide) rfl rfl (Nat.le_of_ble_eq_true rfl) rfl ?_
    obtain ⟨v6_, ev6_, h⟩ := jz_b h
    refine jr_callVN 53 [.int a3, .int v5_] C d_AR_answerForOwn_53 (c_Ba_end (xz_l X) C.2.2.2.2.2.2.1 (kr_AR_baseOf ev1_) ev6_) sz_Ba_end tz_Ba_end lk_AR_238 (oz_Ba (kr_AR_baseOf ev1_)) rfl (by decide) rfl rfl (Nat.le_of_ble_eq_true rfl) rfl ?_
    refine jr_aload 56 C d_AR_answerForOwn_56 rfl ?_
    refine jr_iload_n 58 C d_AR_answerForOwn_58 rfl ?_
    obtain ⟨v7_, ev7_, h⟩ := jz_b h
    refine jr_callVN 59 [.int a3] C d_AR_answerForOwn_59 (c_Ba_askNowhere (xz_l X) C.2.2.2.2.2.2.1 (kr_AR_baseOf ev1_) ev7_) sz_Ba_askNowhere tz_Ba_askNowhere lk_AR_260 (oz_Ba (kr_AR_baseOf ev1_)) rfl (by decide) rfl rfl (Nat.le_of_ble_eq_true rfl) rfl ?_
    obtain rfl := Option.some.inj h
    exact jr_vret 62 C d_AR_answerForOwn_62 rfl
  · have h := jz_f c4_ h
    refine jr_aload 21 C d_AR_answerForOwn_21 rfl ?_
    refine jr_iload_n 23 C d_AR_answerForOwn_23 rfl ?_
    refine jr_aload_n 24 C d_AR_answerForOwn_24 rfl ?_
    refine gf_AR_40 25 C d_AR_answerForOwn_25 ?_
    refine jr_aload_n 28 C d_AR_answerForOwn_28 rfl ?_
    refine gf_AR_19 29 C d_AR_answerForOwn_29 ?_
    refine jr_iload_n 32 C d_AR_answerForOwn_32 rfl ?_
    obtain ⟨v8_, ev8_, h⟩ := jz_b h
    refine jr_callVN 33 [.int a1] C d_AR_answerForOwn_33 (c_Wi_circuitsOf (xz_l X) C.2.2.2.2.2.2.1  ev8_) sz_Wi_circuitsOf tz_Wi_circuitsOf lk_AR_55 oz_Wi rfl (by decide) rfl rfl (Nat.le_of_ble_eq_true rfl) rfl ?_
    obtain ⟨v9_, ev9_, h⟩ := jz_b h
    refine jr_callVN 36 [.int a3, .ref (gz_ad (cz_G Z) 146), .int v8_] C d_AR_answerForOwn_36 (c_Ba_renew (xz_l X) C.2.2.2.2.2.2.1 (kr_AR_baseOf ev1_) ev9_) sz_Ba_renew tz_Ba_renew lk_AR_231 (oz_Ba (kr_AR_baseOf ev1_)) rfl (by decide) rfl rfl (Nat.le_of_ble_eq_true rfl) rfl ?_
    refine jr_goto 39 62 C d_AR_answerForOwn_39 (by decide) ?_
    obtain rfl := Option.some.inj h
    exact jr_vret 62 C d_AR_answerForOwn_62 rfl
abbrev rm_Ba_setDueOn : Room := { frames := 0, cells := 0, slots := 0, locals := 0 }
abbrev cd_Ba_setDueOn : Cond := .code y_Ba_setDueOn b_Ba_setDueOn 3 none
def f_Ba_setDueOn (o0 : Nat) (a1 : Int32) (a2 : Int32) (m : jz_M) : Option (jz_M) :=
  (jz_ix 42 a1).bind fun j1_ =>
  jz_n (jz_up m (o0 + 9) j1_ a2) fun m2_ =>
  some m2_
set_option maxHeartbeats 4000000 in
set_option maxRecDepth 100000 in
theorem c_Ba_setDueOn {Z : cz_Z} (l : Launch) (hI : jz_I (cz_G Z)) {o0 : Nat} {a1 : Int32} {a2 : Int32} {m : jz_M} {r : jz_M} (ko0 : kz_Ba o0) (h : f_Ba_setDueOn o0 a1 a2 m = some r) : jz_m l y_Ba_setDueOn cd_Ba_setDueOn rm_Ba_setDueOn (cz_G Z) [.ref (gz_ad (cz_G Z) o0), .int a1, .int a2] m none r := by
  refine jz_met (own := R_Ba) (by decide) rfl hI (Nat.le_of_ble_eq_true rfl) (fun X hX C => ?_)
  subst hX
  show jz_J X 3 (cz_G Z) _ m [(0, .ref (gz_ad (cz_G Z) o0)), (1, .int a1), (2, .int a2)] 0 []
  unfold f_Ba_setDueOn at h
  refine jr_aload_n 0 C d_Ba_setDueOn_0 rfl ?_
  refine gf_Ba_37 1 C d_Ba_setDueOn_1 ko0 ?_
  refine jr_iload_n 4 C d_Ba_setDueOn_4 rfl ?_
  refine jr_iload_n 5 C d_Ba_setDueOn_5 rfl ?_
  obtain ⟨j1_, ej1_, h⟩ := jz_b h
  obtain ⟨m2_, em2_, h⟩ := jz_ne h
  refine jr_iast 6 C d_Ba_setDueOn_6 (zk_Ba_due ko0) ej1_ ?_
  refine jr_mem em2_ ?_
  obtain rfl := Option.some.inj h
  exact jr_vret 7 C d_Ba_setDueOn_7 rfl
end
section
abbrev rm_AR_receive : Room := { frames := 6, cells := 0, slots := 0, locals := 138 }
abbrev cd_AR_receive : Cond := .code y_AR_receive b_AR_receive 8 none
def f_AR_receive_100 (x2 : Int32) (x5 : Int32) (o6 : Nat) (m : jz_M) : Option (jz_M) :=
  (f_Ba_setDue o6 x5 x2 0 m).bind fun v1_ =>
  (f_Wi_isShared x2 v1_).bind fun v2_ =>
  if ¬ v2_ = 0 then
    some v1_
  else
    (f_Ba_setAsked o6 x5 x2 1 v1_).bind fun v4_ =>
    some v4_
set_option maxHeartbeats 4000000 in
set_option maxRecDepth 100000 in
theorem t_AR_receive_100 {Z : cz_Z} {X : jz_X} {r : jz_M} (C : jz_C X 8 b_AR_receive R_AR none rm_AR_receive (cz_G Z)) : ∀ (x2 : Int32) (x5 : Int32) (o6 : Nat) (m : jz_M) , kz_Ba o6 → f_AR_receive_100 x2 x5 o6 m = some r → jz_J X 8 (cz_G Z) (jz_q X (cz_G Z) none r) m [(0, .ref (gz_ad (cz_G Z) 0)), (2, .int x2), (5, .int x5), (6, .ref (gz_ad (cz_G Z) o6))] 100 [] := by
  intro x2 x5 o6 m k6 h
  unfold f_AR_receive_100 at h
  refine jr_aload 100 C d_AR_receive_100 rfl ?_
  refine jr_iload 102 C d_AR_receive_102 rfl ?_
  refine jr_iload_n 104 C d_AR_receive_104 rfl ?_
  refine jr_iconst 105 0 C d_AR_receive_105 (by decide) ?_
  obtain ⟨v1_, ev1_, h⟩ := jz_b h
  refine jr_callVN 106 [.int x5, .int x2, .int 0] C d_AR_receive_106 (c_Ba_setDue (xz_l X) C.2.2.2.2.2.2.1 k6 ev1_) sz_Ba_setDue tz_Ba_setDue lk_AR_105 (oz_Ba k6) rfl (by decide) rfl rfl (Nat.le_of_ble_eq_true rfl) rfl ?_
  refine jr_aload_n 109 C d_AR_receive_109 rfl ?_
  refine gf_AR_19 110 C d_AR_receive_110 ?_
  refine jr_iload_n 113 C d_AR_receive_113 rfl ?_
  obtain ⟨v2_, ev2_, h⟩ := jz_b h
  refine jr_callVN 114 [.int x2] C d_AR_receive_114 (c_Wi_isShared (xz_l X) C.2.2.2.2.2.2.1 ev2_) sz_Wi_isShared tz_Wi_isShared lk_AR_102 oz_Wi rfl (by decide) rfl rfl (Nat.le_of_ble_eq_true rfl) rfl ?_
  refine jr_if_ne 117 129 C d_AR_receive_117 (by decide) (fun c3_ => ?_) (fun c3_ => ?_)
  · have h := jz_t c3_ h
    obtain rfl := Option.some.inj h
    exact jr_vret 129 C d_AR_receive_129 rfl
  · have h := jz_f c3_ h
    refine jr_aload 120 C d_AR_receive_120 rfl ?_
    refine jr_iload 122 C d_AR_receive_122 rfl ?_
    refine jr_iload_n 124 C d_AR_receive_124 rfl ?_
    refine jr_iconst 125 1 C d_AR_receive_125 (by decide) ?_
    obtain ⟨v4_, ev4_, h⟩ := jz_b h
    refine jr_callVN 126 [.int x5, .int x2, .int 1] C d_AR_receive_126 (c_Ba_setAsked (xz_l X) C.2.2.2.2.2.2.1 k6 ev4_) sz_Ba_setAsked tz_Ba_setAsked lk_AR_120 (oz_Ba k6) rfl (by decide) rfl rfl (Nat.le_of_ble_eq_true rfl) rfl ?_
    obtain rfl := Option.some.inj h
    exact jr_vret 129 C d_AR_receive_129 rfl
def f_AR_receive_85 (x1 : Int32) (x2 : Int32) (x5 : Int32) (o6 : Nat) (m : jz_M) : Option (jz_M) :=
  (f_Wi_circuitsOf x1 m).bind fun v1_ =>
  (f_Ba_setDueOn o6 x5 v1_ m).bind fun v2_ =>
  f_AR_receive_100 x2 x5 o6 v2_
set_option maxHeartbeats 4000000 in
set_option maxRecDepth 100000 in
theorem t_AR_receive_85 {Z : cz_Z} {X : jz_X} {r : jz_M} (C : jz_C X 8 b_AR_receive R_AR none rm_AR_receive (cz_G Z)) : ∀ (x1 : Int32) (x2 : Int32) (x5 : Int32) (o6 : Nat) (m : jz_M) , kz_Ba o6 → f_AR_receive_85 x1 x2 x5 o6 m = some r → jz_J X 8 (cz_G Z) (jz_q X (cz_G Z) none r) m [(0, .ref (gz_ad (cz_G Z) 0)), (1, .int x1), (2, .int x2), (5, .int x5), (6, .ref (gz_ad (cz_G Z) o6))] 85 [] := by
  intro x1 x2 x5 o6 m k6 h
  unfold f_AR_receive_85 at h
  refine jr_aload 85 C d_AR_receive_85 rfl ?_
  refine jr_iload 87 C d_AR_receive_87 rfl ?_
  refine jr_aload_n 89 C d_AR_receive_89 rfl ?_
  refine gf_AR_19 90 C d_AR_receive_90 ?_
  refine jr_iload_n 93 C d_AR_receive_93 rfl ?_
  obtain ⟨v1_, ev1_, h⟩ := jz_b h
  refine jr_callVN 94 [.int x1] C d_AR_receive_94 (c_Wi_circuitsOf (xz_l X) C.2.2.2.2.2.2.1 ev1_) sz_Wi_circuitsOf tz_Wi_circuitsOf lk_AR_55 oz_Wi rfl (by decide) rfl rfl (Nat.le_of_ble_eq_true rfl) rfl ?_
  obtain ⟨v2_, ev2_, h⟩ := jz_b h
  refine jr_callVN 97 [.int x5, .int v1_] C d_AR_receive_97 (c_Ba_setDueOn (xz_l X) C.2.2.2.2.2.2.1 k6 ev2_) sz_Ba_setDueOn tz_Ba_setDueOn lk_AR_254 (oz_Ba k6) rfl (by decide) rfl rfl (Nat.le_of_ble_eq_true rfl) rfl ?_
  refine jr_sub [0, 2, 3, 4] rfl ?_
  exact t_AR_receive_100 C x2 x5 o6 v2_ k6 h
def f_AR_receive (a1 : Int32) (a2 : Int32) (a3 : Int32) (o4 : Nat) (a5 : Int32) (m : jz_M) : Option (jz_M) :=
  (f_AR_baseOf a1 a3 m).bind fun v1_ =>
  (f_Ba_orderAgainst v1_ o4 a5 m).bind fun v2_ =>
  if v2_ ≤ 0 then
    if 0 ≤ v2_ then
      f_AR_receive_100 a2 a5 v1_ m
    else
      (f_Ba_copyFrom v1_ o4 a5 m).bind fun v5_ =>
      (f_AR_routerOf a5 v5_).bind fun v6_ =>
      if ¬ v6_ = a1 then
        f_AR_receive_85 a1 a2 a5 v1_ v5_
      else
        (f_Ba_isAlive v1_ a5 v5_).bind fun v8_ =>
        if v8_ = 0 then
          f_AR_receive_85 a1 a2 a5 v1_ v5_
        else
          (f_AR_answerForOwn a1 a3 a5 v5_).bind fun v10_ =>
          some v10_
  else
    (f_Ba_setDue v1_ a5 a2 1 m).bind fun v11_ =>
    (f_Ba_setAsked v1_ a5 a2 0 v11_).bind fun v12_ =>
    some v12_
set_option maxHeartbeats 4000000 in
set_option maxRecDepth 100000 in
theorem c_AR_receive {Z : cz_Z} (l : Launch) (hI : jz_I (cz_G Z)) {a1 : Int32} {a2 : Int32} {a3 : Int32} {o4 : Nat} {a5 : Int32} {m : jz_M} {r : jz_M} (ko4 : kz_Ba o4) (h : f_AR_receive a1 a2 a3 o4 a5 m = some r) : jz_m l y_AR_receive cd_AR_receive rm_AR_receive (cz_G Z) [.ref (gz_ad (cz_G Z) 0), .int a1, .int a2, .int a3, .ref (gz_ad (cz_G Z) o4), .int a5] m none r := by
  refine jz_met (own := R_AR) (by decide) rfl hI (Nat.le_of_ble_eq_true rfl) (fun X hX C => ?_)
  subst hX
  show jz_J X 8 (cz_G Z) _ m [(0, .ref (gz_ad (cz_G Z) 0)), (1, .int a1), (2, .int a2), (3, .int a3), (4, .ref (gz_ad (cz_G Z) o4)), (5, .int a5)] 0 []
  unfold f_AR_receive at h
  refine jr_aload_n 0 C d_AR_receive_0 rfl ?_
  refine jr_iload_n 1 C d_AR_receive_1 rfl ?_
  refine jr_iload_n 2 C d_AR_receive_2 rfl ?_
  obtain ⟨v1_, ev1_, h⟩ := jz_b h
  refine jr_callV 3 [.int a1, .int a3] C d_AR_receive_3 (c_AR_baseOf (xz_l X) C.2.2.2.2.2.2.1 ev1_) sz_AR_baseOf tz_AR_baseOf lk_AR_87 oz_AR rfl (by decide) rfl rfl (Nat.le_of_ble_eq_true rfl) rfl ?_
  refine jr_astore 6 [(0, .ref (gz_ad (cz_G Z) 0)), (1, .int a1), (2, .int a2), (3, .int a3), (4, .ref (gz_ad (cz_G Z) o4)), (5, .int a5), (6, .ref (gz_ad (cz_G Z) v1_))] C d_AR_receive_6 rfl (by decide) rfl ?_
  refine jr_aload 8 C d_AR_receive_8 rfl ?_
  refine jr_aload 10 C d_AR_receive_10 rfl ?_
  refine jr_iload 12 C d_AR_receive_12 rfl ?_
  obtain ⟨v2_, ev2_, h⟩ := jz_b h
  refine jr_callVN 14 [.ref (gz_ad (cz_G Z) o4), .int a5] C d_AR_receive_14 (c_Ba_orderAgainst (xz_l X) C.2.2.2.2.2.2.1 (kr_AR_baseOf ev1_) ko4 ev2_) sz_Ba_orderAgainst tz_Ba_orderAgainst lk_AR_241 (oz_Ba (kr_AR_baseOf ev1_)) rfl (by decide) rfl rfl (Nat.le_of_ble_eq_true rfl) rfl ?_
  refine jr_istore 17 [(0, .ref (gz_ad (cz_G Z) 0)), (1, .int a1), (2, .int a2), (3, .int a3), (4, .ref (gz_ad (cz_G Z) o4)), (5, .int a5), (6, .ref (gz_ad (cz_G Z) v1_)), (7, .int v2_)] C d_AR_receive_17 rfl (by decide) rfl ?_
  refine jr_iload 19 C d_AR_receive_19 rfl ?_
  refine jr_if_le 21 43 C d_AR_receive_21 (by decide) (fun c3_ => ?_) (fun c3_ => ?_)
  · have h := jz_t c3_ h
    refine jr_iload 43 C d_AR_receive_43 rfl ?_
    refine jr_if_ge 45 100 C d_AR_receive_45 (by decide) (fun c4_ => ?_) (fun c4_ => ?_)
    · have h := jz_t c4_ h
      refine jr_sub [0, 2, 5, 6] rfl ?_
      exact t_AR_receive_100 C  a2 a5 v1_ m (kr_AR_baseOf ev1_) h
    · have h := jz_f c4_ h
      refine jr_aload 48 C d_AR_receive_48 rfl ?_
      refine jr_aload 50 C d_AR_receive_50 rfl ?_
      refine jr_iload 52 C d_AR_receive_52 rfl ?_
      obtain ⟨v5_, ev5_, h⟩ := jz_b h
      refine jr_callVN 54 [.ref (gz_ad (cz_G Z) o4), .int a5] C d_AR_receive_54 (c_Ba_copyFrom (xz_l X) C.2.2.2.2.2.2.1 (kr_AR_baseOf ev1_) ko4 ev5_) sz_Ba_copyFrom tz_Ba_copyFrom lk_AR_245 (oz_Ba (kr_AR_baseOf ev1_)) rfl (by decide) rfl rfl (Nat.le_of_ble_eq_true rfl) rfl ?_
      refine jr_iload 57 C d_AR_receive_57 rfl ?_
      obtain ⟨v6_, ev6_, h⟩ := jz_b h
      refine jr_callS 59 [.int a5] C d_AR_receive_59 (c_AR_routerOf (xz_l X) C.2.2.2.2.2.2.1  ev6_) sz_AR_routerOf tz_AR_routerOf lk_AR_248 (by decide) rfl rfl (Nat.le_of_ble_eq_true rfl) rfl ?_
      refine jr_iload_n 62 C d_AR_receive_62 rfl ?_
      refine jr_icmp_ne 63 85 C d_AR_receive_63 (by decide) (fun c7_ => ?_) (fun c7_ => ?_)
      · have h := jz_t c7_ h
        refine jr_sub [0, 1, 2, 5, 6] rfl ?_
        exact t_AR_receive_85 C  a1 a2 a5 v1_ v5_ (kr_AR_baseOf ev1_) h
      · have h := jz_f c7_ h
        refine jr_aload 66 C d_AR_receive_66 rfl ?_
        refine jr_iload 68 C d_AR_receive_68 rfl ?_
        obtain ⟨v8_, ev8_, h⟩ := jz_b h
        refine jr_callVN 70 [.int a5] C d_AR_receive_70 (c_Ba_isAlive (xz_l X) C.2.2.2.2.2.2.1 (kr_AR_baseOf ev1_) ev8_) sz_Ba_isAlive tz_Ba_isAlive lk_AR_235 (oz_Ba (kr_AR_baseOf ev1_)) rfl (by decide) rfl rfl (Nat.le_of_ble_eq_true rfl) rfl ?_
        refine jr_if_eq 73 85 C d_AR_receive_73 (by decide) (fun c9_ => ?_) (fun c9_ => ?_)
        · have h := jz_t c9_ h
          refine jr_sub [0, 1, 2, 5, 6] rfl ?_
          exact t_AR_receive_85 C  a1 a2 a5 v1_ v5_ (kr_AR_baseOf ev1_) h
        · have h := jz_f c9_ h
          refine jr_aload_n 76 C d_AR_receive_76 rfl ?_
          refine jr_iload_n 77 C d_AR_receive_77 rfl ?_
          refine jr_iload_n 78 C d_AR_receive_78 rfl ?_
          refine jr_iload 79 C d_AR_receive_79 rfl ?_
          obtain ⟨v10_, ev10_, h⟩ := jz_b h
          refine jr_callV 81 [.int a1, .int a3, .int a5] C d_AR_receive_81 (c_AR_answerForOwn (xz_l X) C.2.2.2.2.2.2.1  ev10_) sz_AR_answerForOwn tz_AR_answerForOwn lk_AR_251 oz_AR rfl (by decide) rfl rfl (Nat.le_of_ble_eq_true rfl) rfl ?_
          obtain rfl := Option.some.inj h
          exact jr_vret 84 C d_AR_receive_84 rfl
  · have h := jz_f c3_ h
    refine jr_aload 24 C d_AR_receive_24 rfl ?_
    refine jr_iload 26 C d_AR_receive_26 rfl ?_
    refine jr_iload_n 28 C d_AR_receive_28 rfl ?_
    refine jr_iconst 29 1 C d_AR_receive_29 (by decide) ?_
    obtain ⟨v11_, ev11_, h⟩ := jz_b h
    refine jr_callVN 30 [.int a5, .int a2, .int 1] C d_AR_receive_30 (c_Ba_setDue (xz_l X) C.2.2.2.2.2.2.1 (kr_AR_baseOf ev1_) ev11_) sz_Ba_setDue tz_Ba_setDue lk_AR_105 (oz_Ba (kr_AR_baseOf ev1_)) rfl (by decide) rfl rfl (Nat.le_of_ble_eq_true rfl) rfl ?_
    refine jr_aload 33 C d_AR_receive_33 rfl ?_
    refine jr_iload 35 C d_AR_receive_35 rfl ?_
    refine jr_iload_n 37 C d_AR_receive_37 rfl ?_
    refine jr_iconst 38 0 C d_AR_receive_38 (by decide) ?_
    obtain ⟨v12_, ev12_, h⟩ := jz_b h
    refine jr_callVN 39 [.int a5, .int a2, .int 0] C d_AR_receive_39 (c_Ba_setAsked (xz_l X) C.2.2.2.2.2.2.1 (kr_AR_baseOf ev1_) ev12_) sz_Ba_setAsked tz_Ba_setAsked lk_AR_120 (oz_Ba (kr_AR_baseOf ev1_)) rfl (by decide) rfl rfl (Nat.le_of_ble_eq_true rfl) rfl ?_
    obtain rfl := Option.some.inj h
    exact jr_vret 42 C d_AR_receive_42 rfl
abbrev rm_AR_spread : Room := { frames := 7, cells := 0, slots := 0, locals := 165 }
abbrev cd_AR_spread : Cond := .code y_AR_spread b_AR_spread 9 (some .int)
def f_AR_spread_50 (k26 : Int32 → Int32 → Int32 → Int32 → Nat → Int32 → Int32 → jz_M → Option (Int32 × jz_M)) : Nat → Int32 → Int32 → Int32 → Int32 → Nat → Int32 → Int32 → Int32 → jz_M → Option (Int32 × jz_M)
  | 0, _, _, _, _, _, _, _, _, _ => none
  | fu + 1, x1, x2, x3, x4, o5, x6, x7, x8, m =>
    if 6 ≤ x8 then
      (f_Wi_isShared x2 m).bind fun v2_ =>
      if v2_ = 0 then
        jz_n (x7 + 1) fun x4_ =>
        k26 x1 x2 x3 x4 o5 x6 x4_ m
      else
        (f_Ba_setDue o5 x7 x2 0 m).bind fun v5_ =>
        jz_n (x7 + 1) fun x6_ =>
        k26 x1 x2 x3 x4 o5 x6 x6_ v5_
    else
      (f_AR_isReached x8 x1 x2 x3 x4 m).bind fun v7_ =>
      if v7_ = 0 then
        jz_n (x8 + 1) fun x9_ =>
        f_AR_spread_50 k26 fu x1 x2 x3 x4 o5 x6 x7 x9_ m
      else
        (f_AR_receive x8 x2 x3 o5 x7 m).bind fun v10_ =>
        jz_n (x8 + 1) fun x11_ =>
        f_AR_spread_50 k26 fu x1 x2 x3 x4 o5 x6 x7 x11_ v10_
set_option maxHeartbeats 4000000 in
set_option maxRecDepth 100000 in
theorem t_AR_spread_50 {Z : cz_Z} {X : jz_X} {r : Int32 × jz_M} (C : jz_C X 9 b_AR_spread R_AR (some .int) rm_AR_spread (cz_G Z)) (k26 : Int32 → Int32 → Int32 → Int32 → Nat → Int32 → Int32 → jz_M → Option (Int32 × jz_M)) (hk26 : ∀ (x1 : Int32) (x2 : Int32) (x3 : Int32) (x4 : Int32) (o5 : Nat) (x6 : Int32) (x7 : Int32) (m : jz_M), kz_Ba o5 → k26 x1 x2 x3 x4 o5 x6 x7 m = some r → jz_J X 9 (cz_G Z) (jz_q X (cz_G Z) (some (.int r.1)) r.2) m [(0, .ref (gz_ad (cz_G Z) 0)), (1, .int x1), (2, .int x2), (3, .int x3), (4, .int x4), (5, .ref (gz_ad (cz_G Z) o5)), (6, .int x6), (7, .int x7)] 26 []) : ∀ (fu : Nat) (x1 : Int32) (x2 : Int32) (x3 : Int32) (x4 : Int32) (o5 : Nat) (x6 : Int32) (x7 : Int32) (x8 : Int32) (m : jz_M) , kz_Ba o5 → f_AR_spread_50 k26 fu x1 x2 x3 x4 o5 x6 x7 x8 m = some r → jz_J X 9 (cz_G Z) (jz_q X (cz_G Z) (some (.int r.1)) r.2) m [(0, .ref (gz_ad (cz_G Z) 0)), (1, .int x1), (2, .int x2), (3, .int x3), (4, .int x4), (5, .ref (gz_ad (cz_G Z) o5)), (6, .int x6), (7, .int x7), (8, .int x8)] 50 [] := by
  intro fu
  induction fu with
  | zero => intro x1 x2 x3 x4 o5 x6 x7 x8 m k5 h; cases h
  | succ fu ih =>
    intro x1 x2 x3 x4 o5 x6 x7 x8 m k5 h
    rw [f_AR_spread_50] at h
    refine jr_iload 50 C d_AR_spread_50 rfl ?_
    refine jr_bipush 52 6 C d_AR_spread_52 (by decide) ?_
    refine jr_icmp_ge 54 89 C d_AR_spread_54 (by decide) (fun c1_ => ?_) (fun c1_ => ?_)
    · have h := jz_t c1_ h
      refine jr_aload_n 89 C d_AR_spread_89 rfl ?_
      refine gf_AR_19 90 C d_AR_spread_90 ?_
      refine jr_iload_n 93 C d_AR_spread_93 rfl ?_
      obtain ⟨v2_, ev2_, h⟩ := jz_b h
      refine jr_callVN 94 [.int x2] C d_AR_spread_94 (c_Wi_isShared (xz_l X) C.2.2.2.2.2.2.1  ev2_) sz_Wi_isShared tz_Wi_isShared lk_AR_102 oz_Wi rfl (by decide) rfl rfl (Nat.le_of_ble_eq_true rfl) rfl ?_
      refine jr_if_eq 97 109 C d_AR_spread_97 (by decide) (fun c3_ => ?_) (fun c3_ => ?_)
      · have h := jz_t c3_ h
        obtain ⟨x4_, ex4_, h⟩ := jz_ne h
        refine jr_iinc 109 [(0, .ref (gz_ad (cz_G Z) 0)), (1, .int x1), (2, .int x2), (3, .int x3), (4, .int x4), (5, .ref (gz_ad (cz_G Z) o5)), (6, .int x6), (7, .int x4_), (8, .int x8)] C d_AR_spread_109 rfl (by decide) rfl (by rw [ex4_]; rfl) rfl ?_
        refine jr_goto 112 26 C d_AR_spread_112 (by decide) ?_
        refine jr_sub [0, 1, 2, 3, 4, 5, 6, 7] rfl ?_
        exact hk26 x1 x2 x3 x4 o5 x6 x4_ m k5 h
      · have h := jz_f c3_ h
        refine jr_aload 100 C d_AR_spread_100 rfl ?_
        refine jr_iload 102 C d_AR_spread_102 rfl ?_
        refine jr_iload_n 104 C d_AR_spread_104 rfl ?_
        refine jr_iconst 105 0 C d_AR_spread_105 (by decide) ?_
        obtain ⟨v5_, ev5_, h⟩ := jz_b h
        refine jr_callVN 106 [.int x7, .int x2, .int 0] C d_AR_spread_106 (c_Ba_setDue (xz_l X) C.2.2.2.2.2.2.1 k5 ev5_) sz_Ba_setDue tz_Ba_setDue lk_AR_105 (oz_Ba k5) rfl (by decide) rfl rfl (Nat.le_of_ble_eq_true rfl) rfl ?_
        obtain ⟨x6_, ex6_, h⟩ := jz_ne h
        refine jr_iinc 109 [(0, .ref (gz_ad (cz_G Z) 0)), (1, .int x1), (2, .int x2), (3, .int x3), (4, .int x4), (5, .ref (gz_ad (cz_G Z) o5)), (6, .int x6), (7, .int x6_), (8, .int x8)] C d_AR_spread_109 rfl (by decide) rfl (by rw [ex6_]; rfl) rfl ?_
        refine jr_goto 112 26 C d_AR_spread_112 (by decide) ?_
        refine jr_sub [0, 1, 2, 3, 4, 5, 6, 7] rfl ?_
        exact hk26 x1 x2 x3 x4 o5 x6 x6_ v5_ k5 h
    · have h := jz_f c1_ h
      refine jr_aload_n 57 C d_AR_spread_57 rfl ?_
      refine jr_iload 58 C d_AR_spread_58 rfl ?_
      refine jr_iload_n 60 C d_AR_spread_60 rfl ?_
      refine jr_iload_n 61 C d_AR_spread_61 rfl ?_
      refine jr_iload_n 62 C d_AR_spread_62 rfl ?_
      refine jr_iload 63 C d_AR_spread_63 rfl ?_
      obtain ⟨v7_, ev7_, h⟩ := jz_b h
      refine jr_callV 65 [.int x8, .int x1, .int x2, .int x3, .int x4] C d_AR_spread_65 (c_AR_isReached (xz_l X) C.2.2.2.2.2.2.1  ev7_) sz_AR_isReached tz_AR_isReached lk_AR_94 oz_AR rfl (by decide) rfl rfl (Nat.le_of_ble_eq_true rfl) rfl ?_
      refine jr_if_eq 68 83 C d_AR_spread_68 (by decide) (fun c8_ => ?_) (fun c8_ => ?_)
      · have h := jz_t c8_ h
        obtain ⟨x9_, ex9_, h⟩ := jz_ne h
        refine jr_iinc 83 [(0, .ref (gz_ad (cz_G Z) 0)), (1, .int x1), (2, .int x2), (3, .int x3), (4, .int x4), (5, .ref (gz_ad (cz_G Z) o5)), (6, .int x6), (7, .int x7), (8, .int x9_)] C d_AR_spread_83 rfl (by decide) rfl (by rw [ex9_]; rfl) rfl ?_
        refine jr_goto 86 50 C d_AR_spread_86 (by decide) ?_
        refine jr_sub [0, 1, 2, 3, 4, 5, 6, 7, 8] rfl ?_
        exact ih x1 x2 x3 x4 o5 x6 x7 x9_ m k5 h
      · have h := jz_f c8_ h
        refine jr_aload_n 71 C d_AR_spread_71 rfl ?_
        refine jr_iload 72 C d_AR_spread_72 rfl ?_
        refine jr_iload_n 74 C d_AR_spread_74 rfl ?_
        refine jr_iload_n 75 C d_AR_spread_75 rfl ?_
        refine jr_aload 76 C d_AR_spread_76 rfl ?_
        refine jr_iload 78 C d_AR_spread_78 rfl ?_
        obtain ⟨v10_, ev10_, h⟩ := jz_b h
        refine jr_callV 80 [.int x8, .int x2, .int x3, .ref (gz_ad (cz_G Z) o5), .int x7] C d_AR_spread_80 (c_AR_receive (xz_l X) C.2.2.2.2.2.2.1 k5 ev10_) sz_AR_receive tz_AR_receive lk_AR_98 oz_AR rfl (by decide) rfl rfl (Nat.le_of_ble_eq_true rfl) rfl ?_
        obtain ⟨x11_, ex11_, h⟩ := jz_ne h
        refine jr_iinc 83 [(0, .ref (gz_ad (cz_G Z) 0)), (1, .int x1), (2, .int x2), (3, .int x3), (4, .int x4), (5, .ref (gz_ad (cz_G Z) o5)), (6, .int x6), (7, .int x7), (8, .int x11_)] C d_AR_spread_83 rfl (by decide) rfl (by rw [ex11_]; rfl) rfl ?_
        refine jr_goto 86 50 C d_AR_spread_86 (by decide) ?_
        refine jr_sub [0, 1, 2, 3, 4, 5, 6, 7, 8] rfl ?_
        exact ih x1 x2 x3 x4 o5 x6 x7 x11_ v10_ k5 h
def f_AR_spread_26 : Nat → Int32 → Int32 → Int32 → Int32 → Nat → Int32 → Int32 → jz_M → Option (Int32 × jz_M)
  | 0, _, _, _, _, _, _, _, _ => none
  | fu + 1, x1, x2, x3, x4, o5, x6, x7, m =>
    if 42 ≤ x7 then
      some (x6, m)
    else
      (f_Ba_isDue o5 x7 x2 m).bind fun v2_ =>
      if v2_ = 0 then
        jz_n (x7 + 1) fun x4_ =>
        f_AR_spread_26 fu x1 x2 x3 x4 o5 x6 x4_ m
      else
        jz_n (x6 + 1) fun x5_ =>
        f_AR_spread_50 (f_AR_spread_26 fu) 1000 x1 x2 x3 x4 o5 x5_ x7 0 m
set_option maxHeartbeats 4000000 in
set_option maxRecDepth 100000 in
theorem t_AR_spread_26 {Z : cz_Z} {X : jz_X} {r : Int32 × jz_M} (C : jz_C X 9 b_AR_spread R_AR (some .int) rm_AR_spread (cz_G Z)) : ∀ (fu : Nat) (x1 : Int32) (x2 : Int32) (x3 : Int32) (x4 : Int32) (o5 : Nat) (x6 : Int32) (x7 : Int32) (m : jz_M) , kz_Ba o5 → f_AR_spread_26 fu x1 x2 x3 x4 o5 x6 x7 m = some r → jz_J X 9 (cz_G Z) (jz_q X (cz_G Z) (some (.int r.1)) r.2) m [(0, .ref (gz_ad (cz_G Z) 0)), (1, .int x1), (2, .int x2), (3, .int x3), (4, .int x4), (5, .ref (gz_ad (cz_G Z) o5)), (6, .int x6), (7, .int x7)] 26 [] := by
  intro fu
  induction fu with
  | zero => intro x1 x2 x3 x4 o5 x6 x7 m k5 h; cases h
  | succ fu ih =>
    intro x1 x2 x3 x4 o5 x6 x7 m k5 h
    rw [f_AR_spread_26] at h
    refine jr_iload 26 C d_AR_spread_26 rfl ?_
    refine jr_bipush 28 42 C d_AR_spread_28 (by decide) ?_
    refine jr_icmp_ge 30 115 C d_AR_spread_30 (by decide) (fun c1_ => ?_) (fun c1_ => ?_)
    · have h := jz_t c1_ h
      refine jr_iload 115 C d_AR_spread_115 rfl ?_
      obtain rfl := Option.some.inj h
      exact jr_iret 117 (v := x6) C d_AR_spread_117 rfl
    · have h := jz_f c1_ h
      refine jr_aload 33 C d_AR_spread_33 rfl ?_
      refine jr_iload 35 C d_AR_spread_35 rfl ?_
      refine jr_iload_n 37 C d_AR_spread_37 rfl ?_
      obtain ⟨v2_, ev2_, h⟩ := jz_b h
      refine jr_callVN 38 [.int x7, .int x2] C d_AR_spread_38 (c_Ba_isDue (xz_l X) C.2.2.2.2.2.2.1 k5 ev2_) sz_Ba_isDue tz_Ba_isDue lk_AR_91 (oz_Ba k5) rfl (by decide) rfl rfl (Nat.le_of_ble_eq_true rfl) rfl ?_
      refine jr_if_eq 41 109 C d_AR_spread_41 (by decide) (fun c3_ => ?_) (fun c3_ => ?_)
      · have h := jz_t c3_ h
        obtain ⟨x4_, ex4_, h⟩ := jz_ne h
        refine jr_iinc 109 [(0, .ref (gz_ad (cz_G Z) 0)), (1, .int x1), (2, .int x2), (3, .int x3), (4, .int x4), (5, .ref (gz_ad (cz_G Z) o5)), (6, .int x6), (7, .int x4_)] C d_AR_spread_109 rfl (by decide) rfl (by rw [ex4_]; rfl) rfl ?_
        refine jr_goto 112 26 C d_AR_spread_112 (by decide) ?_
        refine jr_sub [0, 1, 2, 3, 4, 5, 6, 7] rfl ?_
        exact ih x1 x2 x3 x4 o5 x6 x4_ m k5 h
      · have h := jz_f c3_ h
        obtain ⟨x5_, ex5_, h⟩ := jz_ne h
        refine jr_iinc 44 [(0, .ref (gz_ad (cz_G Z) 0)), (1, .int x1), (2, .int x2), (3, .int x3), (4, .int x4), (5, .ref (gz_ad (cz_G Z) o5)), (6, .int x5_), (7, .int x7)] C d_AR_spread_44 rfl (by decide) rfl (by rw [ex5_]; rfl) rfl ?_
        refine jr_iconst 47 0 C d_AR_spread_47 (by decide) ?_
        refine jr_istore 48 [(0, .ref (gz_ad (cz_G Z) 0)), (1, .int x1), (2, .int x2), (3, .int x3), (4, .int x4), (5, .ref (gz_ad (cz_G Z) o5)), (6, .int x5_), (7, .int x7), (8, .int 0)] C d_AR_spread_48 rfl (by decide) rfl ?_
        refine jr_sub [0, 1, 2, 3, 4, 5, 6, 7, 8] rfl ?_
        exact t_AR_spread_50 C (f_AR_spread_26 fu) ih 1000 x1 x2 x3 x4 o5 x5_ x7 0 m k5 h
def f_AR_spread (a1 : Int32) (a2 : Int32) (a3 : Int32) (a4 : Int32) (m : jz_M) : Option (Int32 × jz_M) :=
  (f_AR_checkSender a1 a2 m).bind fun v1_ =>
  (f_AR_checkLevel a1 a3 m).bind fun v2_ =>
  (f_AR_baseOf a1 a3 m).bind fun v3_ =>
  f_AR_spread_26 1000 a1 a2 a3 a4 v3_ 0 0 m
set_option maxHeartbeats 4000000 in
set_option maxRecDepth 100000 in
theorem c_AR_spread {Z : cz_Z} (l : Launch) (hI : jz_I (cz_G Z)) {a1 : Int32} {a2 : Int32} {a3 : Int32} {a4 : Int32} {m : jz_M} {r : Int32 × jz_M} (h : f_AR_spread a1 a2 a3 a4 m = some r) : jz_m l y_AR_spread cd_AR_spread rm_AR_spread (cz_G Z) [.ref (gz_ad (cz_G Z) 0), .int a1, .int a2, .int a3, .int a4] m (some (.int r.1)) r.2 := by
  refine jz_met (own := R_AR) (by decide) rfl hI (Nat.le_of_ble_eq_true rfl) (fun X hX C => ?_)
  subst hX
  show jz_J X 9 (cz_G Z) _ m [(0, .ref (gz_ad (cz_G Z) 0)), (1, .int a1), (2, .int a2), (3, .int a3), (4, .int a4)] 0 []
  unfold f_AR_spread at h
  refine jr_aload_n 0 C d_AR_spread_0 rfl ?_
  refine jr_iload_n 1 C d_AR_spread_1 rfl ?_
  refine jr_iload_n 2 C d_AR_spread_2 rfl ?_
  obtain ⟨v1_, ev1_, h⟩ := jz_b h
  refine jr_callV 3 [.int a1, .int a2] C d_AR_spread_3 (c_AR_checkSender (xz_l X) C.2.2.2.2.2.2.1 ev1_) sz_AR_checkSender tz_AR_checkSender lk_AR_73 oz_AR rfl (by decide) rfl rfl (Nat.le_of_ble_eq_true rfl) rfl ?_
  refine jr_aload_n 6 C d_AR_spread_6 rfl ?_
  refine jr_iload_n 7 C d_AR_spread_7 rfl ?_
  refine jr_iload_n 8 C d_AR_spread_8 rfl ?_
  obtain ⟨v2_, ev2_, h⟩ := jz_b h
  refine jr_callV 9 [.int a1, .int a3] C d_AR_spread_9 (c_AR_checkLevel (xz_l X) C.2.2.2.2.2.2.1 ev2_) sz_AR_checkLevel tz_AR_checkLevel lk_AR_84 oz_AR rfl (by decide) rfl rfl (Nat.le_of_ble_eq_true rfl) rfl ?_
  refine jr_aload_n 12 C d_AR_spread_12 rfl ?_
  refine jr_iload_n 13 C d_AR_spread_13 rfl ?_
  refine jr_iload_n 14 C d_AR_spread_14 rfl ?_
  obtain ⟨v3_, ev3_, h⟩ := jz_b h
  refine jr_callV 15 [.int a1, .int a3] C d_AR_spread_15 (c_AR_baseOf (xz_l X) C.2.2.2.2.2.2.1 ev3_) sz_AR_baseOf tz_AR_baseOf lk_AR_87 oz_AR rfl (by decide) rfl rfl (Nat.le_of_ble_eq_true rfl) rfl ?_
  refine jr_astore 18 [(0, .ref (gz_ad (cz_G Z) 0)), (1, .int a1), (2, .int a2), (3, .int a3), (4, .int a4), (5, .ref (gz_ad (cz_G Z) v3_))] C d_AR_spread_18 rfl (by decide) rfl ?_
  refine jr_iconst 20 0 C d_AR_spread_20 (by decide) ?_
  refine jr_istore 21 [(0, .ref (gz_ad (cz_G Z) 0)), (1, .int a1), (2, .int a2), (3, .int a3), (4, .int a4), (5, .ref (gz_ad (cz_G Z) v3_)), (6, .int 0)] C d_AR_spread_21 rfl (by decide) rfl ?_
  refine jr_iconst 23 0 C d_AR_spread_23 (by decide) ?_
  refine jr_istore 24 [(0, .ref (gz_ad (cz_G Z) 0)), (1, .int a1), (2, .int a2), (3, .int a3), (4, .int a4), (5, .ref (gz_ad (cz_G Z) v3_)), (6, .int 0), (7, .int 0)] C d_AR_spread_24 rfl (by decide) rfl ?_
  refine jr_sub [0, 1, 2, 3, 4, 5, 6, 7] rfl ?_
  exact t_AR_spread_26 C 1000 a1 a2 a3 a4 v3_ 0 0 m (kr_AR_baseOf ev3_) h
abbrev rm_Ba_has : Room := { frames := 0, cells := 0, slots := 0, locals := 0 }
abbrev cd_Ba_has : Cond := .code y_Ba_has b_Ba_has 2 (some .boolean)
def f_Ba_has (o0 : Nat) (a1 : Int32) (m : jz_M) : Option (Int32) :=
  (jz_ix 42 a1).bind fun j1_ =>
  if (m (o0 + 1) j1_) ≤ 0 then
    some 0
  else
    some 1
set_option maxHeartbeats 4000000 in
set_option maxRecDepth 100000 in
theorem c_Ba_has {Z : cz_Z} (l : Launch) (hI : jz_I (cz_G Z)) {o0 : Nat} {a1 : Int32} {m : jz_M} {r : Int32} (ko0 : kz_Ba o0) (h : f_Ba_has o0 a1 m = some r) : jz_m l y_Ba_has cd_Ba_has rm_Ba_has (cz_G Z) [.ref (gz_ad (cz_G Z) o0), .int a1] m (some (.int r)) m := by
  refine jz_met (own := R_Ba) (by decide) rfl hI (Nat.le_of_ble_eq_true rfl) (fun X hX C => ?_)
  subst hX
  show jz_J X 2 (cz_G Z) _ m [(0, .ref (gz_ad (cz_G Z) o0)), (1, .int a1)] 0 []
  unfold f_Ba_has at h
  refine jr_aload_n 0 C d_Ba_has_0 rfl ?_
  refine gf_Ba_9 1 C d_Ba_has_1 ko0 ?_
  refine jr_iload_n 4 C d_Ba_has_4 rfl ?_
  obtain ⟨j1_, ej1_, h⟩ := jz_b h
  refine jr_iald 5 C d_Ba_has_5 (zk_Ba_sequences ko0) ej1_ ?_
  refine jr_if_le 6 13 C d_Ba_has_6 (by decide) (fun c2_ => ?_) (fun c2_ => ?_)
  · have h := jz_t c2_ h
    refine jr_iconst 13 0 C d_Ba_has_13 (by decide) ?_
    obtain rfl := Option.some.inj h
    exact jr_zret 14 (v := 0) C d_Ba_has_14 rfl nb_0
  · have h := jz_f c2_ h
    refine jr_iconst 9 1 C d_Ba_has_9 (by decide) ?_
    refine jr_goto 10 14 C d_Ba_has_10 (by decide) ?_
    obtain rfl := Option.some.inj h
    exact jr_zret 14 (v := 1) C d_Ba_has_14 rfl nb_1
abbrev rm_Ba_compareWithTold : Room := { frames := 2, cells := 0, slots := 0, locals := 43 }
abbrev cd_Ba_compareWithTold : Cond := .code y_Ba_compareWithTold b_Ba_compareWithTold 5 none
def f_Ba_compareWithTold_21 (o0 : Nat) (x2 : Int32) (x3 : Int32) (x4 : Int32) (s0 : Int32) (s1 : Int32) (s2 : Int32) (o3 : Nat) (m : jz_M) : Option (jz_M) :=
  (f_Ba_setDue o3 s2 s1 s0 m).bind fun v1_ =>
  if 0 ≤ x4 then
    some v1_
  else
    (f_Ba_setAsked o0 x2 x3 1 v1_).bind fun v3_ =>
    some v3_
set_option maxHeartbeats 4000000 in
set_option maxRecDepth 100000 in
theorem t_Ba_compareWithTold_21 {Z : cz_Z} {X : jz_X} {r : jz_M} (C : jz_C X 5 b_Ba_compareWithTold R_Ba none rm_Ba_compareWithTold (cz_G Z)) : ∀ (o0 : Nat) (x2 : Int32) (x3 : Int32) (x4 : Int32) (s0 : Int32) (s1 : Int32) (s2 : Int32) (o3 : Nat) (m : jz_M) , kz_Ba o0 → kz_Ba o3 → f_Ba_compareWithTold_21 o0 x2 x3 x4 s0 s1 s2 o3 m = some r → jz_J X 5 (cz_G Z) (jz_q X (cz_G Z) none r) m [(0, .ref (gz_ad (cz_G Z) o0)), (2, .int x2), (3, .int x3), (4, .int x4)] 21 [.int s0, .int s1, .int s2, .ref (gz_ad (cz_G Z) o3)] := by
  intro o0 x2 x3 x4 s0 s1 s2 o3 m k0 k3 h
  unfold f_Ba_compareWithTold_21 at h
  obtain ⟨v1_, ev1_, h⟩ := jz_b h
  refine jr_callV 21 [.int s2, .int s1, .int s0] C d_Ba_compareWithTold_21 (c_Ba_setDue (xz_l X) C.2.2.2.2.2.2.1 k3 ev1_) sz_Ba_setDue tz_Ba_setDue lk_Ba_58 (oz_Ba k3) rfl (by decide) rfl rfl (Nat.le_of_ble_eq_true rfl) rfl ?_
  refine jr_iload 24 C d_Ba_compareWithTold_24 rfl ?_
  refine jr_if_ge 26 36 C d_Ba_compareWithTold_26 (by decide) (fun c2_ => ?_) (fun c2_ => ?_)
  · have h := jz_t c2_ h
    obtain rfl := Option.some.inj h
    exact jr_vret 36 C d_Ba_compareWithTold_36 rfl
  · have h := jz_f c2_ h
    refine jr_aload_n 29 C d_Ba_compareWithTold_29 rfl ?_
    refine jr_iload_n 30 C d_Ba_compareWithTold_30 rfl ?_
    refine jr_iload_n 31 C d_Ba_compareWithTold_31 rfl ?_
    refine jr_iconst 32 1 C d_Ba_compareWithTold_32 (by decide) ?_
    obtain ⟨v3_, ev3_, h⟩ := jz_b h
    refine jr_callV 33 [.int x2, .int x3, .int 1] C d_Ba_compareWithTold_33 (c_Ba_setAsked (xz_l X) C.2.2.2.2.2.2.1 k0 ev3_) sz_Ba_setAsked tz_Ba_setAsked lk_Ba_62 (oz_Ba k0) rfl (by decide) rfl rfl (Nat.le_of_ble_eq_true rfl) rfl ?_
    obtain rfl := Option.some.inj h
    exact jr_vret 36 C d_Ba_compareWithTold_36 rfl
def f_Ba_compareWithTold (o0 : Nat) (o1 : Nat) (a2 : Int32) (a3 : Int32) (m : jz_M) : Option (jz_M) :=
  (f_Ba_orderAgainst o0 o1 a2 m).bind fun v1_ =>
  if v1_ ≤ 0 then
    f_Ba_compareWithTold_21 o0 a2 a3 v1_ 0 a3 a2 o0 m
  else
    f_Ba_compareWithTold_21 o0 a2 a3 v1_ 1 a3 a2 o0 m
set_option maxHeartbeats 4000000 in
set_option maxRecDepth 100000 in
theorem c_Ba_compareWithTold {Z : cz_Z} (l : Launch) (hI : jz_I (cz_G Z)) {o0 : Nat} {o1 : Nat} {a2 : Int32} {a3 : Int32} {m : jz_M} {r : jz_M} (ko0 : kz_Ba o0) (ko1 : kz_Ba o1) (h : f_Ba_compareWithTold o0 o1 a2 a3 m = some r) : jz_m l y_Ba_compareWithTold cd_Ba_compareWithTold rm_Ba_compareWithTold (cz_G Z) [.ref (gz_ad (cz_G Z) o0), .ref (gz_ad (cz_G Z) o1), .int a2, .int a3] m none r := by
  refine jz_met (own := R_Ba) (by decide) rfl hI (Nat.le_of_ble_eq_true rfl) (fun X hX C => ?_)
  subst hX
  show jz_J X 5 (cz_G Z) _ m [(0, .ref (gz_ad (cz_G Z) o0)), (1, .ref (gz_ad (cz_G Z) o1)), (2, .int a2), (3, .int a3)] 0 []
  unfold f_Ba_compareWithTold at h
  refine jr_aload_n 0 C d_Ba_compareWithTold_0 rfl ?_
  refine jr_aload_n 1 C d_Ba_compareWithTold_1 rfl ?_
  refine jr_iload_n 2 C d_Ba_compareWithTold_2 rfl ?_
  obtain ⟨v1_, ev1_, h⟩ := jz_b h
  refine jr_callV 3 [.ref (gz_ad (cz_G Z) o1), .int a2] C d_Ba_compareWithTold_3 (c_Ba_orderAgainst (xz_l X) C.2.2.2.2.2.2.1 ko0 ko1 ev1_) sz_Ba_orderAgainst tz_Ba_orderAgainst lk_Ba_54 (oz_Ba ko0) rfl (by decide) rfl rfl (Nat.le_of_ble_eq_true rfl) rfl ?_
  refine jr_istore 6 [(0, .ref (gz_ad (cz_G Z) o0)), (1, .ref (gz_ad (cz_G Z) o1)), (2, .int a2), (3, .int a3), (4, .int v1_)] C d_Ba_compareWithTold_6 rfl (by decide) rfl ?_
  refine jr_aload_n 8 C d_Ba_compareWithTold_8 rfl ?_
  refine jr_iload_n 9 C d_Ba_compareWithTold_9 rfl ?_
  refine jr_iload_n 10 C d_Ba_compareWithTold_10 rfl ?_
  refine jr_iload 11 C d_Ba_compareWithTold_11 rfl ?_
  refine jr_if_le 13 20 C d_Ba_compareWithTold_13 (by decide) (fun c2_ => ?_) (fun c2_ => ?_)
  · have h := jz_t c2_ h
    refine jr_iconst 20 0 C d_Ba_compareWithTold_20 (by decide) ?_
    refine jr_sub [0, 2, 3, 4] rfl ?_
    exact t_Ba_compareWithTold_21 C  o0 a2 a3 v1_ 0 a3 a2 o0 m ko0 ko0 h
  · have h := jz_f c2_ h
    refine jr_iconst 16 1 C d_Ba_compareWithTold_16 (by decide) ?_
    refine jr_goto 17 21 C d_Ba_compareWithTold_17 (by decide) ?_
    refine jr_sub [0, 2, 3, 4] rfl ?_
    exact t_Ba_compareWithTold_21 C  o0 a2 a3 v1_ 1 a3 a2 o0 m ko0 ko0 h
abbrev rm_Ba_compareWithSummary : Room := { frames := 3, cells := 0, slots := 0, locals := 67 }
abbrev cd_Ba_compareWithSummary : Cond := .code y_Ba_compareWithSummary b_Ba_compareWithSummary 4 none
def f_Ba_compareWithSummary_2 : Nat → Nat → Nat → Int32 → Int32 → jz_M → Option (jz_M)
  | 0, _, _, _, _, _ => none
  | fu + 1, o0, o1, x2, x3, m =>
    if 42 ≤ x3 then
      some m
    else
      (f_Ba_has o1 x3 m).bind fun v2_ =>
      if v2_ = 0 then
        (f_Ba_isAlive o0 x3 m).bind fun v4_ =>
        if v4_ = 0 then
          jz_n (x3 + 1) fun x6_ =>
          f_Ba_compareWithSummary_2 fu o0 o1 x2 x6_ m
        else
          (f_Ba_setDue o0 x3 x2 1 m).bind fun v7_ =>
          jz_n (x3 + 1) fun x8_ =>
          f_Ba_compareWithSummary_2 fu o0 o1 x2 x8_ v7_
      else
        (f_Ba_compareWithTold o0 o1 x3 x2 m).bind fun v9_ =>
        jz_n (x3 + 1) fun x10_ =>
        f_Ba_compareWithSummary_2 fu o0 o1 x2 x10_ v9_
set_option maxHeartbeats 4000000 in
set_option maxRecDepth 100000 in
theorem t_Ba_compareWithSummary_2 {Z : cz_Z} {X : jz_X} {r : jz_M} (C : jz_C X 4 b_Ba_compareWithSummary R_Ba none rm_Ba_compareWithSummary (cz_G Z)) : ∀ (fu : Nat) (o0 : Nat) (o1 : Nat) (x2 : Int32) (x3 : Int32) (m : jz_M) , kz_Ba o0 → kz_Ba o1 → f_Ba_compareWithSummary_2 fu o0 o1 x2 x3 m = some r → jz_J X 4 (cz_G Z) (jz_q X (cz_G Z) none r) m [(0, .ref (gz_ad (cz_G Z) o0)), (1, .ref (gz_ad (cz_G Z) o1)), (2, .int x2), (3, .int x3)] 2 [] := by
  intro fu
  induction fu with
  | zero => intro o0 o1 x2 x3 m k0 k1 h; cases h
  | succ fu ih =>
    intro o0 o1 x2 x3 m k0 k1 h
    rw [f_Ba_compareWithSummary_2] at h
    refine jr_iload_n 2 C d_Ba_compareWithSummary_2 rfl ?_
    refine jr_bipush 3 42 C d_Ba_compareWithSummary_3 (by decide) ?_
    refine jr_icmp_ge 5 47 C d_Ba_compareWithSummary_5 (by decide) (fun c1_ => ?_) (fun c1_ => ?_)
    · have h := jz_t c1_ h
      obtain rfl := Option.some.inj h
      exact jr_vret 47 C d_Ba_compareWithSummary_47 rfl
    · have h := jz_f c1_ h
      refine jr_aload_n 8 C d_Ba_compareWithSummary_8 rfl ?_
      refine jr_iload_n 9 C d_Ba_compareWithSummary_9 rfl ?_
      obtain ⟨v2_, ev2_, h⟩ := jz_b h
      refine jr_callV 10 [.int x3] C d_Ba_compareWithSummary_10 (c_Ba_has (xz_l X) C.2.2.2.2.2.2.1 k1 ev2_) sz_Ba_has tz_Ba_has lk_Ba_43 (oz_Ba k1) rfl (by decide) rfl rfl (Nat.le_of_ble_eq_true rfl) rfl ?_
      refine jr_if_eq 13 26 C d_Ba_compareWithSummary_13 (by decide) (fun c3_ => ?_) (fun c3_ => ?_)
      · have h := jz_t c3_ h
        refine jr_aload_n 26 C d_Ba_compareWithSummary_26 rfl ?_
        refine jr_iload_n 27 C d_Ba_compareWithSummary_27 rfl ?_
        obtain ⟨v4_, ev4_, h⟩ := jz_b h
        refine jr_callV 28 [.int x3] C d_Ba_compareWithSummary_28 (c_Ba_isAlive (xz_l X) C.2.2.2.2.2.2.1 k0 ev4_) sz_Ba_isAlive tz_Ba_isAlive lk_Ba_51 (oz_Ba k0) rfl (by decide) rfl rfl (Nat.le_of_ble_eq_true rfl) rfl ?_
        refine jr_if_eq 31 41 C d_Ba_compareWithSummary_31 (by decide) (fun c5_ => ?_) (fun c5_ => ?_)
        · have h := jz_t c5_ h
          obtain ⟨x6_, ex6_, h⟩ := jz_ne h
          refine jr_iinc 41 [(0, .ref (gz_ad (cz_G Z) o0)), (1, .ref (gz_ad (cz_G Z) o1)), (2, .int x2), (3, .int x6_)] C d_Ba_compareWithSummary_41 rfl (by decide) rfl (by rw [ex6_]; rfl) rfl ?_
          refine jr_goto 44 2 C d_Ba_compareWithSummary_44 (by decide) ?_
          refine jr_sub [0, 1, 2, 3] rfl ?_
          exact ih o0 o1 x2 x6_ m k0 k1 h
        · have h := jz_f c5_ h
          refine jr_aload_n 34 C d_Ba_compareWithSummary_34 rfl ?_
          refine jr_iload_n 35 C d_Ba_compareWithSummary_35 rfl ?_
          refine jr_iload_n 36 C d_Ba_compareWithSummary_36 rfl ?_
          refine jr_iconst 37 1 C d_Ba_compareWithSummary_37 (by decide) ?_
          obtain ⟨v7_, ev7_, h⟩ := jz_b h
          refine jr_callV 38 [.int x3, .int x2, .int 1] C d_Ba_compareWithSummary_38 (c_Ba_setDue (xz_l X) C.2.2.2.2.2.2.1 k0 ev7_) sz_Ba_setDue tz_Ba_setDue lk_Ba_58 (oz_Ba k0) rfl (by decide) rfl rfl (Nat.le_of_ble_eq_true rfl) rfl ?_
          obtain ⟨x8_, ex8_, h⟩ := jz_ne h
          refine jr_iinc 41 [(0, .ref (gz_ad (cz_G Z) o0)), (1, .ref (gz_ad (cz_G Z) o1)), (2, .int x2), (3, .int x8_)] C d_Ba_compareWithSummary_41 rfl (by decide) rfl (by rw [ex8_]; rfl) rfl ?_
          refine jr_goto 44 2 C d_Ba_compareWithSummary_44 (by decide) ?_
          refine jr_sub [0, 1, 2, 3] rfl ?_
          exact ih o0 o1 x2 x8_ v7_ k0 k1 h
      · have h := jz_f c3_ h
        refine jr_aload_n 16 C d_Ba_compareWithSummary_16 rfl ?_
        refine jr_aload_n 17 C d_Ba_compareWithSummary_17 rfl ?_
        refine jr_iload_n 18 C d_Ba_compareWithSummary_18 rfl ?_
        refine jr_iload_n 19 C d_Ba_compareWithSummary_19 rfl ?_
        obtain ⟨v9_, ev9_, h⟩ := jz_b h
        refine jr_callV 20 [.ref (gz_ad (cz_G Z) o1), .int x3, .int x2] C d_Ba_compareWithSummary_20 (c_Ba_compareWithTold (xz_l X) C.2.2.2.2.2.2.1 k0 k1 ev9_) sz_Ba_compareWithTold tz_Ba_compareWithTold lk_Ba_65 (oz_Ba k0) rfl (by decide) rfl rfl (Nat.le_of_ble_eq_true rfl) rfl ?_
        refine jr_goto 23 41 C d_Ba_compareWithSummary_23 (by decide) ?_
        obtain ⟨x10_, ex10_, h⟩ := jz_ne h
        refine jr_iinc 41 [(0, .ref (gz_ad (cz_G Z) o0)), (1, .ref (gz_ad (cz_G Z) o1)), (2, .int x2), (3, .int x10_)] C d_Ba_compareWithSummary_41 rfl (by decide) rfl (by rw [ex10_]; rfl) rfl ?_
        refine jr_goto 44 2 C d_Ba_compareWithSummary_44 (by decide) ?_
        refine jr_sub [0, 1, 2, 3] rfl ?_
        exact ih o0 o1 x2 x10_ v9_ k0 k1 h
def f_Ba_compareWithSummary (o0 : Nat) (o1 : Nat) (a2 : Int32) (m : jz_M) : Option (jz_M) :=
  f_Ba_compareWithSummary_2 1000 o0 o1 a2 0 m
set_option maxHeartbeats 4000000 in
set_option maxRecDepth 100000 in
theorem c_Ba_compareWithSummary {Z : cz_Z} (l : Launch) (hI : jz_I (cz_G Z)) {o0 : Nat} {o1 : Nat} {a2 : Int32} {m : jz_M} {r : jz_M} (ko0 : kz_Ba o0) (ko1 : kz_Ba o1) (h : f_Ba_compareWithSummary o0 o1 a2 m = some r) : jz_m l y_Ba_compareWithSummary cd_Ba_compareWithSummary rm_Ba_compareWithSummary (cz_G Z) [.ref (gz_ad (cz_G Z) o0), .ref (gz_ad (cz_G Z) o1), .int a2] m none r := by
  refine jz_met (own := R_Ba) (by decide) rfl hI (Nat.le_of_ble_eq_true rfl) (fun X hX C => ?_)
  subst hX
  show jz_J X 4 (cz_G Z) _ m [(0, .ref (gz_ad (cz_G Z) o0)), (1, .ref (gz_ad (cz_G Z) o1)), (2, .int a2)] 0 []
  unfold f_Ba_compareWithSummary at h
  refine jr_iconst 0 0 C d_Ba_compareWithSummary_0 (by decide) ?_
  refine jr_istore_n 1 [(0, .ref (gz_ad (cz_G Z) o0)), (1, .ref (gz_ad (cz_G Z) o1)), (2, .int a2), (3, .int 0)] C d_Ba_compareWithSummary_1 rfl (by decide) rfl ?_
  refine jr_sub [0, 1, 2, 3] rfl ?_
  exact t_Ba_compareWithSummary_2 C 1000 o0 o1 a2 0 m ko0 ko1 h
abbrev rm_Ba_count : Room := { frames := 1, cells := 0, slots := 0, locals := 21 }
abbrev cd_Ba_count : Cond := .code y_Ba_count b_Ba_count 3 (some .int)
def f_Ba_count_4 (m : jz_M) : Nat → Nat → Int32 → Int32 → Option (Int32)
  | 0, _, _, _ => none
  | fu + 1, o0, x1, x2 =>
    if 42 ≤ x2 then
      some x1
    else
      (f_Ba_has o0 x2 m).bind fun v2_ =>
      if v2_ = 0 then
        jz_n (x2 + 1) fun x4_ =>
        f_Ba_count_4 m fu o0 x1 x4_
      else
        jz_n (x1 + 1) fun x5_ =>
        jz_n (x2 + 1) fun x6_ =>
        f_Ba_count_4 m fu o0 x5_ x6_
set_option maxHeartbeats 4000000 in
set_option maxRecDepth 100000 in
theorem t_Ba_count_4 {Z : cz_Z} {X : jz_X} {m : jz_M} {r : Int32} (C : jz_C X 3 b_Ba_count R_Ba (some .int) rm_Ba_count (cz_G Z)) : ∀ (fu : Nat) (o0 : Nat) (x1 : Int32) (x2 : Int32) , kz_Ba o0 → f_Ba_count_4 m fu o0 x1 x2 = some r → jz_J X 3 (cz_G Z) (jz_q X (cz_G Z) (some (.int r)) m) m [(0, .ref (gz_ad (cz_G Z) o0)), (1, .int x1), (2, .int x2)] 4 [] := by
  intro fu
  induction fu with
  | zero => intro o0 x1 x2 k0 h; cases h
  | succ fu ih =>
    intro o0 x1 x2 k0 h
    rw [f_Ba_count_4] at h
    refine jr_iload_n 4 C d_Ba_count_4 rfl ?_
    refine jr_bipush 5 42 C d_Ba_count_5 (by decide) ?_
    refine jr_icmp_ge 7 27 C d_Ba_count_7 (by decide) (fun c1_ => ?_) (fun c1_ => ?_)
    · have h := jz_t c1_ h
      refine jr_iload_n 27 C d_Ba_count_27 rfl ?_
      obtain rfl := Option.some.inj h
      exact jr_iret 28 (v := x1) C d_Ba_count_28 rfl
    · have h := jz_f c1_ h
      refine jr_aload_n 10 C d_Ba_count_10 rfl ?_
      refine jr_iload_n 11 C d_Ba_count_11 rfl ?_
      obtain ⟨v2_, ev2_, h⟩ := jz_b h
      refine jr_callV 12 [.int x2] C d_Ba_count_12 (c_Ba_has (xz_l X) C.2.2.2.2.2.2.1 k0 ev2_) sz_Ba_has tz_Ba_has lk_Ba_43 (oz_Ba k0) rfl (by decide) rfl rfl (Nat.le_of_ble_eq_true rfl) rfl ?_
      refine jr_if_eq 15 21 C d_Ba_count_15 (by decide) (fun c3_ => ?_) (fun c3_ => ?_)
      · have h := jz_t c3_ h
        obtain ⟨x4_, ex4_, h⟩ := jz_ne h
        refine jr_iinc 21 [(0, .ref (gz_ad (cz_G Z) o0)), (1, .int x1), (2, .int x4_)] C d_Ba_count_21 rfl (by decide) rfl (by rw [ex4_]; rfl) rfl ?_
        refine jr_goto 24 4 C d_Ba_count_24 (by decide) ?_
        refine jr_sub [0, 1, 2] rfl ?_
        exact ih o0 x1 x4_ k0 h
      · have h := jz_f c3_ h
        obtain ⟨x5_, ex5_, h⟩ := jz_ne h
        refine jr_iinc 18 [(0, .ref (gz_ad (cz_G Z) o0)), (1, .int x5_), (2, .int x2)] C d_Ba_count_18 rfl (by decide) rfl (by rw [ex5_]; rfl) rfl ?_
        obtain ⟨x6_, ex6_, h⟩ := jz_ne h
        refine jr_iinc 21 [(0, .ref (gz_ad (cz_G Z) o0)), (1, .int x5_), (2, .int x6_)] C d_Ba_count_21 rfl (by decide) rfl (by rw [ex6_]; rfl) rfl ?_
        refine jr_goto 24 4 C d_Ba_count_24 (by decide) ?_
        refine jr_sub [0, 1, 2] rfl ?_
        exact ih o0 x5_ x6_ k0 h
def f_Ba_count (o0 : Nat) (m : jz_M) : Option (Int32) :=
  f_Ba_count_4 m 1000 o0 0 0
set_option maxHeartbeats 4000000 in
set_option maxRecDepth 100000 in
theorem c_Ba_count {Z : cz_Z} (l : Launch) (hI : jz_I (cz_G Z)) {o0 : Nat} {m : jz_M} {r : Int32} (ko0 : kz_Ba o0) (h : f_Ba_count o0 m = some r) : jz_m l y_Ba_count cd_Ba_count rm_Ba_count (cz_G Z) [.ref (gz_ad (cz_G Z) o0)] m (some (.int r)) m := by
  refine jz_met (own := R_Ba) (by decide) rfl hI (Nat.le_of_ble_eq_true rfl) (fun X hX C => ?_)
  subst hX
  show jz_J X 3 (cz_G Z) _ m [(0, .ref (gz_ad (cz_G Z) o0))] 0 []
  unfold f_Ba_count at h
  refine jr_iconst 0 0 C d_Ba_count_0 (by decide) ?_
  refine jr_istore_n 1 [(0, .ref (gz_ad (cz_G Z) o0)), (1, .int 0)] C d_Ba_count_1 rfl (by decide) rfl ?_
  refine jr_iconst 2 0 C d_Ba_count_2 (by decide) ?_
  refine jr_istore_n 3 [(0, .ref (gz_ad (cz_G Z) o0)), (1, .int 0), (2, .int 0)] C d_Ba_count_3 rfl (by decide) rfl ?_
  refine jr_sub [0, 1, 2] rfl ?_
  exact t_Ba_count_4 C 1000 o0 0 0 ko0 h
abbrev rm_AR_summary : Room := { frames := 4, cells := 0, slots := 0, locals := 90 }
abbrev cd_AR_summary : Cond := .code y_AR_summary b_AR_summary 7 (some .int)
def f_AR_summary_23 : Nat → Int32 → Int32 → Int32 → Int32 → Nat → Int32 → jz_M → Option (Int32 × jz_M)
  | 0, _, _, _, _, _, _, _ => none
  | fu + 1, x1, x2, x3, x4, o5, x6, m =>
    if 6 ≤ x6 then
      (f_Ba_count o5 m).bind fun v2_ =>
      some (v2_, m)
    else
      (f_AR_isReached x6 x1 x2 x3 x4 m).bind fun v3_ =>
      if v3_ = 0 then
        jz_n (x6 + 1) fun x5_ =>
        f_AR_summary_23 fu x1 x2 x3 x4 o5 x5_ m
      else
        (f_AR_baseOf x6 x3 m).bind fun v6_ =>
        (f_Ba_compareWithSummary v6_ o5 x2 m).bind fun v7_ =>
        jz_n (x6 + 1) fun x8_ =>
        f_AR_summary_23 fu x1 x2 x3 x4 o5 x8_ v7_
set_option maxHeartbeats 4000000 in
set_option maxRecDepth 100000 in
theorem t_AR_summary_23 {Z : cz_Z} {X : jz_X} {r : Int32 × jz_M} (C : jz_C X 7 b_AR_summary R_AR (some .int) rm_AR_summary (cz_G Z)) : ∀ (fu : Nat) (x1 : Int32) (x2 : Int32) (x3 : Int32) (x4 : Int32) (o5 : Nat) (x6 : Int32) (m : jz_M) , kz_Ba o5 → f_AR_summary_23 fu x1 x2 x3 x4 o5 x6 m = some r → jz_J X 7 (cz_G Z) (jz_q X (cz_G Z) (some (.int r.1)) r.2) m [(0, .ref (gz_ad (cz_G Z) 0)), (1, .int x1), (2, .int x2), (3, .int x3), (4, .int x4), (5, .ref (gz_ad (cz_G Z) o5)), (6, .int x6)] 23 [] := by
  intro fu
  induction fu with
  | zero => intro x1 x2 x3 x4 o5 x6 m k5 h; cases h
  | succ fu ih =>
    intro x1 x2 x3 x4 o5 x6 m k5 h
    rw [f_AR_summary_23] at h
    refine jr_iload 23 C d_AR_summary_23 rfl ?_
    refine jr_bipush 25 6 C d_AR_summary_25 (by decide) ?_
    refine jr_icmp_ge 27 63 C d_AR_summary_27 (by decide) (fun c1_ => ?_) (fun c1_ => ?_)
    · have h := jz_t c1_ h
      refine jr_aload 63 C d_AR_summary_63 rfl ?_
      obtain ⟨v2_, ev2_, h⟩ := jz_b h
      refine jr_callVN 65 [] C d_AR_summary_65 (c_Ba_count (xz_l X) C.2.2.2.2.2.2.1 k5 ev2_) sz_Ba_count tz_Ba_count lk_AR_113 (oz_Ba k5) rfl (by decide) rfl rfl (Nat.le_of_ble_eq_true rfl) rfl ?_
      obtain rfl := Option.some.inj h
      exact jr_iret 68 (v := v2_) C d_AR_summary_68 rfl
    · have h := jz_f c1_ h
      refine jr_aload_n 30 C d_AR_summary_30 rfl ?_
      refine jr_iload 31 C d_AR_summary_31 rfl ?_
      refine jr_iload_n 33 C d_AR_summary_33 rfl ?_
      refine jr_iload_n 34 C d_AR_summary_34 rfl ?_
      refine jr_iload_n 35 C d_AR_summary_35 rfl ?_
      refine jr_iload 36 C d_AR_summary_36 rfl ?_
      obtain ⟨v3_, ev3_, h⟩ := jz_b h
      refine jr_callV 38 [.int x6, .int x1, .int x2, .int x3, .int x4] C d_AR_summary_38 (c_AR_isReached (xz_l X) C.2.2.2.2.2.2.1  ev3_) sz_AR_isReached tz_AR_isReached lk_AR_94 oz_AR rfl (by decide) rfl rfl (Nat.le_of_ble_eq_true rfl) rfl ?_
      refine jr_if_eq 41 57 C d_AR_summary_41 (by decide) (fun c4_ => ?_) (fun c4_ => ?_)
      · have h := jz_t c4_ h
        obtain ⟨x5_, ex5_, h⟩ := jz_ne h
        refine jr_iinc 57 [(0, .ref (gz_ad (cz_G Z) 0)), (1, .int x1), (2, .int x2), (3, .int x3), (4, .int x4), (5, .ref (gz_ad (cz_G Z) o5)), (6, .int x5_)] C d_AR_summary_57 rfl (by decide) rfl (by rw [ex5_]; rfl) rfl ?_
        refine jr_goto 60 23 C d_AR_summary_60 (by decide) ?_
        refine jr_sub [0, 1, 2, 3, 4, 5, 6] rfl ?_
        exact ih x1 x2 x3 x4 o5 x5_ m k5 h
      · have h := jz_f c4_ h
        refine jr_aload_n 44 C d_AR_summary_44 rfl ?_
        refine jr_iload 45 C d_AR_summary_45 rfl ?_
        refine jr_iload_n 47 C d_AR_summary_47 rfl ?_
        obtain ⟨v6_, ev6_, h⟩ := jz_b h
        refine jr_callV 48 [.int x6, .int x3] C d_AR_summary_48 (c_AR_baseOf (xz_l X) C.2.2.2.2.2.2.1  ev6_) sz_AR_baseOf tz_AR_baseOf lk_AR_87 oz_AR rfl (by decide) rfl rfl (Nat.le_of_ble_eq_true rfl) rfl ?_
        refine jr_aload 51 C d_AR_summary_51 rfl ?_
        refine jr_iload_n 53 C d_AR_summary_53 rfl ?_
        obtain ⟨v7_, ev7_, h⟩ := jz_b h
        refine jr_callVN 54 [.ref (gz_ad (cz_G Z) o5), .int x2] C d_AR_summary_54 (c_Ba_compareWithSummary (xz_l X) C.2.2.2.2.2.2.1 (kr_AR_baseOf ev6_) k5 ev7_) sz_Ba_compareWithSummary tz_Ba_compareWithSummary lk_AR_109 (oz_Ba (kr_AR_baseOf ev6_)) rfl (by decide) rfl rfl (Nat.le_of_ble_eq_true rfl) rfl ?_
        obtain ⟨x8_, ex8_, h⟩ := jz_ne h
        refine jr_iinc 57 [(0, .ref (gz_ad (cz_G Z) 0)), (1, .int x1), (2, .int x2), (3, .int x3), (4, .int x4), (5, .ref (gz_ad (cz_G Z) o5)), (6, .int x8_)] C d_AR_summary_57 rfl (by decide) rfl (by rw [ex8_]; rfl) rfl ?_
        refine jr_goto 60 23 C d_AR_summary_60 (by decide) ?_
        refine jr_sub [0, 1, 2, 3, 4, 5, 6] rfl ?_
        exact ih x1 x2 x3 x4 o5 x8_ v7_ k5 h
def f_AR_summary (a1 : Int32) (a2 : Int32) (a3 : Int32) (a4 : Int32) (m : jz_M) : Option (Int32 × jz_M) :=
  (f_AR_checkSender a1 a2 m).bind fun v1_ =>
  (f_AR_checkLevel a1 a3 m).bind fun v2_ =>
  (f_AR_baseOf a1 a3 m).bind fun v3_ =>
  f_AR_summary_23 1000 a1 a2 a3 a4 v3_ 0 m
set_option maxHeartbeats 4000000 in
set_option maxRecDepth 100000 in
theorem c_AR_summary {Z : cz_Z} (l : Launch) (hI : jz_I (cz_G Z)) {a1 : Int32} {a2 : Int32} {a3 : Int32} {a4 : Int32} {m : jz_M} {r : Int32 × jz_M} (h : f_AR_summary a1 a2 a3 a4 m = some r) : jz_m l y_AR_summary cd_AR_summary rm_AR_summary (cz_G Z) [.ref (gz_ad (cz_G Z) 0), .int a1, .int a2, .int a3, .int a4] m (some (.int r.1)) r.2 := by
  refine jz_met (own := R_AR) (by decide) rfl hI (Nat.le_of_ble_eq_true rfl) (fun X hX C => ?_)
  subst hX
  show jz_J X 7 (cz_G Z) _ m [(0, .ref (gz_ad (cz_G Z) 0)), (1, .int a1), (2, .int a2), (3, .int a3), (4, .int a4)] 0 []
  unfold f_AR_summary at h
  refine jr_aload_n 0 C d_AR_summary_0 rfl ?_
  refine jr_iload_n 1 C d_AR_summary_1 rfl ?_
  refine jr_iload_n 2 C d_AR_summary_2 rfl ?_
  obtain ⟨v1_, ev1_, h⟩ := jz_b h
  refine jr_callV 3 [.int a1, .int a2] C d_AR_summary_3 (c_AR_checkSender (xz_l X) C.2.2.2.2.2.2.1 ev1_) sz_AR_checkSender tz_AR_checkSender lk_AR_73 oz_AR rfl (by decide) rfl rfl (Nat.le_of_ble_eq_true rfl) rfl ?_
  refine jr_aload_n 6 C d_AR_summary_6 rfl ?_
  refine jr_iload_n 7 C d_AR_summary_7 rfl ?_
  refine jr_iload_n 8 C d_AR_summary_8 rfl ?_
  obtain ⟨v2_, ev2_, h⟩ := jz_b h
  refine jr_callV 9 [.int a1, .int a3] C d_AR_summary_9 (c_AR_checkLevel (xz_l X) C.2.2.2.2.2.2.1 ev2_) sz_AR_checkLevel tz_AR_checkLevel lk_AR_84 oz_AR rfl (by decide) rfl rfl (Nat.le_of_ble_eq_true rfl) rfl ?_
  refine jr_aload_n 12 C d_AR_summary_12 rfl ?_
  refine jr_iload_n 13 C d_AR_summary_13 rfl ?_
  refine jr_iload_n 14 C d_AR_summary_14 rfl ?_
  obtain ⟨v3_, ev3_, h⟩ := jz_b h
  refine jr_callV 15 [.int a1, .int a3] C d_AR_summary_15 (c_AR_baseOf (xz_l X) C.2.2.2.2.2.2.1 ev3_) sz_AR_baseOf tz_AR_baseOf lk_AR_87 oz_AR rfl (by decide) rfl rfl (Nat.le_of_ble_eq_true rfl) rfl ?_
  refine jr_astore 18 [(0, .ref (gz_ad (cz_G Z) 0)), (1, .int a1), (2, .int a2), (3, .int a3), (4, .int a4), (5, .ref (gz_ad (cz_G Z) v3_))] C d_AR_summary_18 rfl (by decide) rfl ?_
  refine jr_iconst 20 0 C d_AR_summary_20 (by decide) ?_
  refine jr_istore 21 [(0, .ref (gz_ad (cz_G Z) 0)), (1, .int a1), (2, .int a2), (3, .int a3), (4, .int a4), (5, .ref (gz_ad (cz_G Z) v3_)), (6, .int 0)] C d_AR_summary_21 rfl (by decide) rfl ?_
  refine jr_sub [0, 1, 2, 3, 4, 5, 6] rfl ?_
  exact t_AR_summary_23 C 1000 a1 a2 a3 a4 v3_ 0 m (kr_AR_baseOf ev3_) h
abbrev rm_Ba_isAsked : Room := { frames := 0, cells := 0, slots := 0, locals := 0 }
abbrev cd_Ba_isAsked : Cond := .code y_Ba_isAsked b_Ba_isAsked 3 (some .boolean)
def f_Ba_isAsked (o0 : Nat) (a1 : Int32) (a2 : Int32) (m : jz_M) : Option (Int32) :=
  (jz_ix 42 a1).bind fun j1_ =>
  if (((m (o0 + 10) j1_) >>> (a2 &&& 31)) &&& 1) = 0 then
    some 0
  else
    some 1
set_option maxHeartbeats 4000000 in
set_option maxRecDepth 100000 in
theorem c_Ba_isAsked {Z : cz_Z} (l : Launch) (hI : jz_I (cz_G Z)) {o0 : Nat} {a1 : Int32} {a2 : Int32} {m : jz_M} {r : Int32} (ko0 : kz_Ba o0) (h : f_Ba_isAsked o0 a1 a2 m = some r) : jz_m l y_Ba_isAsked cd_Ba_isAsked rm_Ba_isAsked (cz_G Z) [.ref (gz_ad (cz_G Z) o0), .int a1, .int a2] m (some (.int r)) m := by
  refine jz_met (own := R_Ba) (by decide) rfl hI (Nat.le_of_ble_eq_true rfl) (fun X hX C => ?_)
  subst hX
  show jz_J X 3 (cz_G Z) _ m [(0, .ref (gz_ad (cz_G Z) o0)), (1, .int a1), (2, .int a2)] 0 []
  unfold f_Ba_isAsked at h
  refine jr_aload_n 0 C d_Ba_isAsked_0 rfl ?_
  refine gf_Ba_40 1 C d_Ba_isAsked_1 ko0 ?_
  refine jr_iload_n 4 C d_Ba_isAsked_4 rfl ?_
  obtain ⟨j1_, ej1_, h⟩ := jz_b h
  refine jr_iald 5 C d_Ba_isAsked_5 (zk_Ba_asked ko0) ej1_ ?_
  refine jr_iload_n 6 C d_Ba_isAsked_6 rfl ?_
  refine jr_ishr 7 C d_Ba_isAsked_7 ?_
  refine jr_iconst 8 1 C d_Ba_isAsked_8 (by decide) ?_
  refine jr_iand 9 C d_Ba_isAsked_9 ?_
  refine jr_if_eq 10 17 C d_Ba_isAsked_10 (by decide) (fun c2_ => ?_) (fun c2_ => ?_)
  · have h := jz_t c2_ h
    refine jr_iconst 17 0 C d_Ba_isAsked_17 (by decide) ?_
    obtain rfl := Option.some.inj h
    exact jr_zret 18 (v := 0) C d_Ba_isAsked_18 rfl nb_0
  · have h := jz_f c2_ h
    refine jr_iconst 13 1 C d_Ba_isAsked_13 (by decide) ?_
    refine jr_goto 14 18 C d_Ba_isAsked_14 (by decide) ?_
    obtain rfl := Option.some.inj h
    exact jr_zret 18 (v := 1) C d_Ba_isAsked_18 rfl nb_1
end
section
abbrev rm_AR_request : Room := { frames := 3, cells := 0, slots := 0, locals := 67 }
abbrev cd_AR_request : Cond := .code y_AR_request b_AR_request 9 (some .int)
def f_AR_request_59 (k26 : Int32 → Int32 → Int32 → Int32 → Nat → Int32 → Int32 → jz_M → Option (Int32 × jz_M)) : Nat → Int32 → Int32 → Int32 → Int32 → Nat → Int32 → Int32 → Int32 → jz_M → Option (Int32 × jz_M)
  | 0, _, _, _, _, _, _, _, _, _ => none
  | fu + 1, x1, x2, x3, x4, o5, x6, x7, x8, m =>
    if 6 ≤ x8 then
      jz_n (x7 + 1) fun x2_ =>
      k26 x1 x2 x3 x4 o5 x6 x2_ m
    else
      (f_AR_isReached x8 x1 x2 x3 x4 m).bind fun v3_ =>
      if v3_ = 0 then
        jz_n (x8 + 1) fun x5_ =>
        f_AR_request_59 k26 fu x1 x2 x3 x4 o5 x6 x7 x5_ m
      else
        (f_AR_baseOf x8 x3 m).bind fun v6_ =>
        (f_Ba_compareWithTold v6_ o5 x7 x2 m).bind fun v7_ =>
        jz_n (x8 + 1) fun x8_ =>
        f_AR_request_59 k26 fu x1 x2 x3 x4 o5 x6 x7 x8_ v7_
set_option maxHeartbeats 4000000 in
set_option maxRecDepth 100000 in
theorem t_AR_request_59 {Z : cz_Z} {X : jz_X} {r : Int32 × jz_M} (C : jz_C X 9 b_AR_request R_AR (some .int) rm_AR_request (cz_G Z)) (k26 : Int32 → Int32 → Int32 → Int32 → Nat → Int32 → Int32 → jz_M → Option (Int32 × jz_M)) (hk26 : ∀ (x1 : Int32) (x2 : Int32) (x3 : Int32) (x4 : Int32) (o5 : Nat) (x6 : Int32) (x7 : Int32) (m : jz_M), kz_Ba o5 → k26 x1 x2 x3 x4 o5 x6 x7 m = some r → jz_J X 9 (cz_G Z) (jz_q X (cz_G Z) (some (.int r.1)) r.2) m [(0, .ref (gz_ad (cz_G Z) 0)), (1, .int x1), (2, .int x2), (3, .int x3), (4, .int x4), (5, .ref (gz_ad (cz_G Z) o5)), (6, .int x6), (7, .int x7)] 26 []) : ∀ (fu : Nat) (x1 : Int32) (x2 : Int32) (x3 : Int32) (x4 : Int32) (o5 : Nat) (x6 : Int32) (x7 : Int32) (x8 : Int32) (m : jz_M) , kz_Ba o5 → f_AR_request_59 k26 fu x1 x2 x3 x4 o5 x6 x7 x8 m = some r → jz_J X 9 (cz_G Z) (jz_q X (cz_G Z) (some (.int r.1)) r.2) m [(0, .ref (gz_ad (cz_G Z) 0)), (1, .int x1), (2, .int x2), (3, .int x3), (4, .int x4), (5, .ref (gz_ad (cz_G Z) o5)), (6, .int x6), (7, .int x7), (8, .int x8)] 59 [] := by
  intro fu
  induction fu with
  | zero => intro x1 x2 x3 x4 o5 x6 x7 x8 m k5 h; cases h
  | succ fu ih =>
    intro x1 x2 x3 x4 o5 x6 x7 x8 m k5 h
    rw [f_AR_request_59] at h
    refine jr_iload 59 C d_AR_request_59 rfl ?_
    refine jr_bipush 61 6 C d_AR_request_61 (by decide) ?_
    refine jr_icmp_ge 63 101 C d_AR_request_63 (by decide) (fun c1_ => ?_) (fun c1_ => ?_)
    · have h := jz_t c1_ h
      obtain ⟨x2_, ex2_, h⟩ := jz_ne h
      refine jr_iinc 101 [(0, .ref (gz_ad (cz_G Z) 0)), (1, .int x1), (2, .int x2), (3, .int x3), (4, .int x4), (5, .ref (gz_ad (cz_G Z) o5)), (6, .int x6), (7, .int x2_), (8, .int x8)] C d_AR_request_101 rfl (by decide) rfl (by rw [ex2_]; rfl) rfl ?_
      refine jr_goto 104 26 C d_AR_request_104 (by decide) ?_
      refine jr_sub [0, 1, 2, 3, 4, 5, 6, 7] rfl ?_
      exact hk26 x1 x2 x3 x4 o5 x6 x2_ m k5 h
    · have h := jz_f c1_ h
      refine jr_aload_n 66 C d_AR_request_66 rfl ?_
      refine jr_iload 67 C d_AR_request_67 rfl ?_
      refine jr_iload_n 69 C d_AR_request_69 rfl ?_
      refine jr_iload_n 70 C d_AR_request_70 rfl ?_
      refine jr_iload_n 71 C d_AR_request_71 rfl ?_
      refine jr_iload 72 C d_AR_request_72 rfl ?_
      obtain ⟨v3_, ev3_, h⟩ := jz_b h
      refine jr_callV 74 [.int x8, .int x1, .int x2, .int x3, .int x4] C d_AR_request_74 (c_AR_isReached (xz_l X) C.2.2.2.2.2.2.1  ev3_) sz_AR_isReached tz_AR_isReached lk_AR_94 oz_AR rfl (by decide) rfl rfl (Nat.le_of_ble_eq_true rfl) rfl ?_
      refine jr_if_eq 77 95 C d_AR_request_77 (by decide) (fun c4_ => ?_) (fun c4_ => ?_)
      · have h := jz_t c4_ h
        obtain ⟨x5_, ex5_, h⟩ := jz_ne h
        refine jr_iinc 95 [(0, .ref (gz_ad (cz_G Z) 0)), (1, .int x1), (2, .int x2), (3, .int x3), (4, .int x4), (5, .ref (gz_ad (cz_G Z) o5)), (6, .int x6), (7, .int x7), (8, .int x5_)] C d_AR_request_95 rfl (by decide) rfl (by rw [ex5_]; rfl) rfl ?_
        refine jr_goto 98 59 C d_AR_request_98 (by decide) ?_
        refine jr_sub [0, 1, 2, 3, 4, 5, 6, 7, 8] rfl ?_
        exact ih x1 x2 x3 x4 o5 x6 x7 x5_ m k5 h
      · have h := jz_f c4_ h
        refine jr_aload_n 80 C d_AR_request_80 rfl ?_
        refine jr_iload 81 C d_AR_request_81 rfl ?_
        refine jr_iload_n 83 C d_AR_request_83 rfl ?_
        obtain ⟨v6_, ev6_, h⟩ := jz_b h
        refine jr_callV 84 [.int x8, .int x3] C d_AR_request_84 (c_AR_baseOf (xz_l X) C.2.2.2.2.2.2.1  ev6_) sz_AR_baseOf tz_AR_baseOf lk_AR_87 oz_AR rfl (by decide) rfl rfl (Nat.le_of_ble_eq_true rfl) rfl ?_
        refine jr_aload 87 C d_AR_request_87 rfl ?_
        refine jr_iload 89 C d_AR_request_89 rfl ?_
        refine jr_iload_n 91 C d_AR_request_91 rfl ?_
        obtain ⟨v7_, ev7_, h⟩ := jz_b h
        refine jr_callVN 92 [.ref (gz_ad (cz_G Z) o5), .int x7, .int x2] C d_AR_request_92 (c_Ba_compareWithTold (xz_l X) C.2.2.2.2.2.2.1 (kr_AR_baseOf ev6_) k5 ev7_) sz_Ba_compareWithTold tz_Ba_compareWithTold lk_AR_123 (oz_Ba (kr_AR_baseOf ev6_)) rfl (by decide) rfl rfl (Nat.le_of_ble_eq_true rfl) rfl ?_
        obtain ⟨x8_, ex8_, h⟩ := jz_ne h
        refine jr_iinc 95 [(0, .ref (gz_ad (cz_G Z) 0)), (1, .int x1), (2, .int x2), (3, .int x3), (4, .int x4), (5, .ref (gz_ad (cz_G Z) o5)), (6, .int x6), (7, .int x7), (8, .int x8_)] C d_AR_request_95 rfl (by decide) rfl (by rw [ex8_]; rfl) rfl ?_
        refine jr_goto 98 59 C d_AR_request_98 (by decide) ?_
        refine jr_sub [0, 1, 2, 3, 4, 5, 6, 7, 8] rfl ?_
        exact ih x1 x2 x3 x4 o5 x6 x7 x8_ v7_ k5 h
def f_AR_request_26 : Nat → Int32 → Int32 → Int32 → Int32 → Nat → Int32 → Int32 → jz_M → Option (Int32 × jz_M)
  | 0, _, _, _, _, _, _, _, _ => none
  | fu + 1, x1, x2, x3, x4, o5, x6, x7, m =>
    if 42 ≤ x7 then
      some (x6, m)
    else
      (f_Ba_isAsked o5 x7 x2 m).bind fun v2_ =>
      if v2_ = 0 then
        jz_n (x7 + 1) fun x4_ =>
        f_AR_request_26 fu x1 x2 x3 x4 o5 x6 x4_ m
      else
        jz_n (x6 + 1) fun x5_ =>
        (f_Ba_setAsked o5 x7 x2 0 m).bind fun v6_ =>
        f_AR_request_59 (f_AR_request_26 fu) 1000 x1 x2 x3 x4 o5 x5_ x7 0 v6_
set_option maxHeartbeats 4000000 in
set_option maxRecDepth 100000 in
theorem t_AR_request_26 {Z : cz_Z} {X : jz_X} {r : Int32 × jz_M} (C : jz_C X 9 b_AR_request R_AR (some .int) rm_AR_request (cz_G Z)) : ∀ (fu : Nat) (x1 : Int32) (x2 : Int32) (x3 : Int32) (x4 : Int32) (o5 : Nat) (x6 : Int32) (x7 : Int32) (m : jz_M) , kz_Ba o5 → f_AR_request_26 fu x1 x2 x3 x4 o5 x6 x7 m = some r → jz_J X 9 (cz_G Z) (jz_q X (cz_G Z) (some (.int r.1)) r.2) m [(0, .ref (gz_ad (cz_G Z) 0)), (1, .int x1), (2, .int x2), (3, .int x3), (4, .int x4), (5, .ref (gz_ad (cz_G Z) o5)), (6, .int x6), (7, .int x7)] 26 [] := by
  intro fu
  induction fu with
  | zero => intro x1 x2 x3 x4 o5 x6 x7 m k5 h; cases h
  | succ fu ih =>
    intro x1 x2 x3 x4 o5 x6 x7 m k5 h
    rw [f_AR_request_26] at h
    refine jr_iload 26 C d_AR_request_26 rfl ?_
    refine jr_bipush 28 42 C d_AR_request_28 (by decide) ?_
    refine jr_icmp_ge 30 107 C d_AR_request_30 (by decide) (fun c1_ => ?_) (fun c1_ => ?_)
    · have h := jz_t c1_ h
      refine jr_iload 107 C d_AR_request_107 rfl ?_
      obtain rfl := Option.some.inj h
      exact jr_iret 109 (v := x6) C d_AR_request_109 rfl
    · have h := jz_f c1_ h
      refine jr_aload 33 C d_AR_request_33 rfl ?_
      refine jr_iload 35 C d_AR_request_35 rfl ?_
      refine jr_iload_n 37 C d_AR_request_37 rfl ?_
      obtain ⟨v2_, ev2_, h⟩ := jz_b h
      refine jr_callVN 38 [.int x7, .int x2] C d_AR_request_38 (c_Ba_isAsked (xz_l X) C.2.2.2.2.2.2.1 k5 ev2_) sz_Ba_isAsked tz_Ba_isAsked lk_AR_117 (oz_Ba k5) rfl (by decide) rfl rfl (Nat.le_of_ble_eq_true rfl) rfl ?_
      refine jr_if_eq 41 101 C d_AR_request_41 (by decide) (fun c3_ => ?_) (fun c3_ => ?_)
      · have h := jz_t c3_ h
        obtain ⟨x4_, ex4_, h⟩ := jz_ne h
        refine jr_iinc 101 [(0, .ref (gz_ad (cz_G Z) 0)), (1, .int x1), (2, .int x2), (3, .int x3), (4, .int x4), (5, .ref (gz_ad (cz_G Z) o5)), (6, .int x6), (7, .int x4_)] C d_AR_request_101 rfl (by decide) rfl (by rw [ex4_]; rfl) rfl ?_
        refine jr_goto 104 26 C d_AR_request_104 (by decide) ?_
        refine jr_sub [0, 1, 2, 3, 4, 5, 6, 7] rfl ?_
        exact ih x1 x2 x3 x4 o5 x6 x4_ m k5 h
      · have h := jz_f c3_ h
        obtain ⟨x5_, ex5_, h⟩ := jz_ne h
        refine jr_iinc 44 [(0, .ref (gz_ad (cz_G Z) 0)), (1, .int x1), (2, .int x2), (3, .int x3), (4, .int x4), (5, .ref (gz_ad (cz_G Z) o5)), (6, .int x5_), (7, .int x7)] C d_AR_request_44 rfl (by decide) rfl (by rw [ex5_]; rfl) rfl ?_
        refine jr_aload 47 C d_AR_request_47 rfl ?_
        refine jr_iload 49 C d_AR_request_49 rfl ?_
        refine jr_iload_n 51 C d_AR_request_51 rfl ?_
        refine jr_iconst 52 0 C d_AR_request_52 (by decide) ?_
        obtain ⟨v6_, ev6_, h⟩ := jz_b h
        refine jr_callVN 53 [.int x7, .int x2, .int 0] C d_AR_request_53 (c_Ba_setAsked (xz_l X) C.2.2.2.2.2.2.1 k5 ev6_) sz_Ba_setAsked tz_Ba_setAsked lk_AR_120 (oz_Ba k5) rfl (by decide) rfl rfl (Nat.le_of_ble_eq_true rfl) rfl ?_
        refine jr_iconst 56 0 C d_AR_request_56 (by decide) ?_
        refine jr_istore 57 [(0, .ref (gz_ad (cz_G Z) 0)), (1, .int x1), (2, .int x2), (3, .int x3), (4, .int x4), (5, .ref (gz_ad (cz_G Z) o5)), (6, .int x5_), (7, .int x7), (8, .int 0)] C d_AR_request_57 rfl (by decide) rfl ?_
        refine jr_sub [0, 1, 2, 3, 4, 5, 6, 7, 8] rfl ?_
        exact t_AR_request_59 C (f_AR_request_26 fu) ih 1000 x1 x2 x3 x4 o5 x5_ x7 0 v6_ k5 h
def f_AR_request (a1 : Int32) (a2 : Int32) (a3 : Int32) (a4 : Int32) (m : jz_M) : Option (Int32 × jz_M) :=
  (f_AR_checkSender a1 a2 m).bind fun v1_ =>
  (f_AR_checkLevel a1 a3 m).bind fun v2_ =>
  (f_AR_baseOf a1 a3 m).bind fun v3_ =>
  f_AR_request_26 1000 a1 a2 a3 a4 v3_ 0 0 m
set_option maxHeartbeats 4000000 in
set_option maxRecDepth 100000 in
theorem c_AR_request {Z : cz_Z} (l : Launch) (hI : jz_I (cz_G Z)) {a1 : Int32} {a2 : Int32} {a3 : Int32} {a4 : Int32} {m : jz_M} {r : Int32 × jz_M} (h : f_AR_request a1 a2 a3 a4 m = some r) : jz_m l y_AR_request cd_AR_request rm_AR_request (cz_G Z) [.ref (gz_ad (cz_G Z) 0), .int a1, .int a2, .int a3, .int a4] m (some (.int r.1)) r.2 := by
  refine jz_met (own := R_AR) (by decide) rfl hI (Nat.le_of_ble_eq_true rfl) (fun X hX C => ?_)
  subst hX
  show jz_J X 9 (cz_G Z) _ m [(0, .ref (gz_ad (cz_G Z) 0)), (1, .int a1), (2, .int a2), (3, .int a3), (4, .int a4)] 0 []
  unfold f_AR_request at h
  refine jr_aload_n 0 C d_AR_request_0 rfl ?_
  refine jr_iload_n 1 C d_AR_request_1 rfl ?_
  refine jr_iload_n 2 C d_AR_request_2 rfl ?_
  obtain ⟨v1_, ev1_, h⟩ := jz_b h
  refine jr_callV 3 [.int a1, .int a2] C d_AR_request_3 (c_AR_checkSender (xz_l X) C.2.2.2.2.2.2.1 ev1_) sz_AR_checkSender tz_AR_checkSender lk_AR_73 oz_AR rfl (by decide) rfl rfl (Nat.le_of_ble_eq_true rfl) rfl ?_
  refine jr_aload_n 6 C d_AR_request_6 rfl ?_
  refine jr_iload_n 7 C d_AR_request_7 rfl ?_
  refine jr_iload_n 8 C d_AR_request_8 rfl ?_
  obtain ⟨v2_, ev2_, h⟩ := jz_b h
  refine jr_callV 9 [.int a1, .int a3] C d_AR_request_9 (c_AR_checkLevel (xz_l X) C.2.2.2.2.2.2.1 ev2_) sz_AR_checkLevel tz_AR_checkLevel lk_AR_84 oz_AR rfl (by decide) rfl rfl (Nat.le_of_ble_eq_true rfl) rfl ?_
  refine jr_aload_n 12 C d_AR_request_12 rfl ?_
  refine jr_iload_n 13 C d_AR_request_13 rfl ?_
  refine jr_iload_n 14 C d_AR_request_14 rfl ?_
  obtain ⟨v3_, ev3_, h⟩ := jz_b h
  refine jr_callV 15 [.int a1, .int a3] C d_AR_request_15 (c_AR_baseOf (xz_l X) C.2.2.2.2.2.2.1 ev3_) sz_AR_baseOf tz_AR_baseOf lk_AR_87 oz_AR rfl (by decide) rfl rfl (Nat.le_of_ble_eq_true rfl) rfl ?_
  refine jr_astore 18 [(0, .ref (gz_ad (cz_G Z) 0)), (1, .int a1), (2, .int a2), (3, .int a3), (4, .int a4), (5, .ref (gz_ad (cz_G Z) v3_))] C d_AR_request_18 rfl (by decide) rfl ?_
  refine jr_iconst 20 0 C d_AR_request_20 (by decide) ?_
  refine jr_istore 21 [(0, .ref (gz_ad (cz_G Z) 0)), (1, .int a1), (2, .int a2), (3, .int a3), (4, .int a4), (5, .ref (gz_ad (cz_G Z) v3_)), (6, .int 0)] C d_AR_request_21 rfl (by decide) rfl ?_
  refine jr_iconst 23 0 C d_AR_request_23 (by decide) ?_
  refine jr_istore 24 [(0, .ref (gz_ad (cz_G Z) 0)), (1, .int a1), (2, .int a2), (3, .int a3), (4, .int a4), (5, .ref (gz_ad (cz_G Z) v3_)), (6, .int 0), (7, .int 0)] C d_AR_request_24 rfl (by decide) rfl ?_
  refine jr_sub [0, 1, 2, 3, 4, 5, 6, 7] rfl ?_
  exact t_AR_request_26 C 1000 a1 a2 a3 a4 v3_ 0 0 m (kr_AR_baseOf ev3_) h
abbrev rm_Ba_linkOf : Room := { frames := 0, cells := 0, slots := 0, locals := 0 }
abbrev cd_Ba_linkOf : Cond := .code y_Ba_linkOf b_Ba_linkOf 3 (some .int)
def f_Ba_linkOf (o0 : Nat) (a1 : Int32) (a2 : Int32) (m : jz_M) : Option (Int32) :=
  (jz_ix 420 ((a1 * 10) + a2)).bind fun j1_ =>
  some (m (o0 + 8) j1_)
set_option maxHeartbeats 4000000 in
set_option maxRecDepth 100000 in
theorem c_Ba_linkOf {Z : cz_Z} (l : Launch) (hI : jz_I (cz_G Z)) {o0 : Nat} {a1 : Int32} {a2 : Int32} {m : jz_M} {r : Int32} (ko0 : kz_Ba o0) (h : f_Ba_linkOf o0 a1 a2 m = some r) : jz_m l y_Ba_linkOf cd_Ba_linkOf rm_Ba_linkOf (cz_G Z) [.ref (gz_ad (cz_G Z) o0), .int a1, .int a2] m (some (.int r)) m := by
  refine jz_met (own := R_Ba) (by decide) rfl hI (Nat.le_of_ble_eq_true rfl) (fun X hX C => ?_)
  subst hX
  show jz_J X 3 (cz_G Z) _ m [(0, .ref (gz_ad (cz_G Z) o0)), (1, .int a1), (2, .int a2)] 0 []
  unfold f_Ba_linkOf at h
  refine jr_aload_n 0 C d_Ba_linkOf_0 rfl ?_
  refine gf_Ba_34 1 C d_Ba_linkOf_1 ko0 ?_
  refine jr_iload_n 4 C d_Ba_linkOf_4 rfl ?_
  refine jr_bipush 5 10 C d_Ba_linkOf_5 (by decide) ?_
  refine jr_imul 7 C d_Ba_linkOf_7 ?_
  refine jr_iload_n 8 C d_Ba_linkOf_8 rfl ?_
  refine jr_iadd 9 C d_Ba_linkOf_9 ?_
  obtain ⟨j1_, ej1_, h⟩ := jz_b h
  refine jr_iald 10 C d_Ba_linkOf_10 (zk_Ba_links ko0) ej1_ ?_
  obtain rfl := Option.some.inj h
  exact jr_iret 11 (v := (m (o0 + 8) j1_)) C d_Ba_linkOf_11 rfl
abbrev rm_Ba_isStillTrue : Room := { frames := 1, cells := 0, slots := 0, locals := 22 }
abbrev cd_Ba_isStillTrue : Cond := .code y_Ba_isStillTrue b_Ba_isStillTrue 4 (some .boolean)
def f_Ba_isStillTrue_40 (m : jz_M) : Nat → Nat → Int32 → Int32 → Option (Int32)
  | 0, _, _, _ => none
  | fu + 1, o0, x1, x3 =>
    if (m 146 0) ≤ x3 then
      some 1
    else
      (f_Ba_linkOf o0 x1 x3 m).bind fun v2_ =>
      (jz_ix 10 x3).bind fun j3_ =>
      if v2_ = (m 147 j3_) then
        jz_n (x3 + 1) fun x5_ =>
        f_Ba_isStillTrue_40 m fu o0 x1 x5_
      else
        some 0
set_option maxHeartbeats 4000000 in
set_option maxRecDepth 100000 in
theorem t_Ba_isStillTrue_40 {Z : cz_Z} {X : jz_X} {m : jz_M} {r : Int32} (C : jz_C X 4 b_Ba_isStillTrue R_Ba (some .boolean) rm_Ba_isStillTrue (cz_G Z)) : ∀ (fu : Nat) (o0 : Nat) (x1 : Int32) (x3 : Int32) , kz_Ba o0 → f_Ba_isStillTrue_40 m fu o0 x1 x3 = some r → jz_J X 4 (cz_G Z) (jz_q X (cz_G Z) (some (.int r)) m) m [(0, .ref (gz_ad (cz_G Z) o0)), (1, .int x1), (2, .ref (gz_ad (cz_G Z) 146)), (3, .int x3)] 40 [] := by
  intro fu
  induction fu with
  | zero => intro o0 x1 x3 k0 h; cases h
  | succ fu ih =>
    intro o0 x1 x3 k0 h
    rw [f_Ba_isStillTrue_40] at h
    refine jr_iload_n 40 C d_Ba_isStillTrue_40 rfl ?_
    refine jr_aload_n 41 C d_Ba_isStillTrue_41 rfl ?_
    refine gf_Ba_75 42 C d_Ba_isStillTrue_42 ?_
    refine jr_icmp_ge 45 71 C d_Ba_isStillTrue_45 (by decide) (fun c1_ => ?_) (fun c1_ => ?_)
    · have h := jz_t c1_ h
      refine jr_iconst 71 1 C d_Ba_isStillTrue_71 (by decide) ?_
      obtain rfl := Option.some.inj h
      exact jr_zret 72 (v := 1) C d_Ba_isStillTrue_72 rfl nb_1
    · have h := jz_f c1_ h
      refine jr_aload_n 48 C d_Ba_isStillTrue_48 rfl ?_
      refine jr_iload_n 49 C d_Ba_isStillTrue_49 rfl ?_
      refine jr_iload_n 50 C d_Ba_isStillTrue_50 rfl ?_
      obtain ⟨v2_, ev2_, h⟩ := jz_b h
      refine jr_callV 51 [.int x1, .int x3] C d_Ba_isStillTrue_51 (c_Ba_linkOf (xz_l X) C.2.2.2.2.2.2.1 k0 ev2_) sz_Ba_linkOf tz_Ba_linkOf lk_Ba_47 (oz_Ba k0) rfl (by decide) rfl rfl (Nat.le_of_ble_eq_true rfl) rfl ?_
      refine jr_aload_n 54 C d_Ba_isStillTrue_54 rfl ?_
      refine gf_Ba_79 55 C d_Ba_isStillTrue_55 ?_
      refine jr_iload_n 58 C d_Ba_isStillTrue_58 rfl ?_
      obtain ⟨j3_, ej3_, h⟩ := jz_b h
      refine jr_iald 59 C d_Ba_isStillTrue_59 zk_Dr_links ej3_ ?_
      refine jr_icmp_eq 60 65 C d_Ba_isStillTrue_60 (by decide) (fun c4_ => ?_) (fun c4_ => ?_)
      · have h := jz_t c4_ h
        obtain ⟨x5_, ex5_, h⟩ := jz_ne h
        refine jr_iinc 65 [(0, .ref (gz_ad (cz_G Z) o0)), (1, .int x1), (2, .ref (gz_ad (cz_G Z) 146)), (3, .int x5_)] C d_Ba_isStillTrue_65 rfl (by decide) rfl (by rw [ex5_]; rfl) rfl ?_
        refine jr_goto 68 40 C d_Ba_isStillTrue_68 (by decide) ?_
        refine jr_sub [0, 1, 2, 3] rfl ?_
        exact ih o0 x1 x5_ k0 h
      · have h := jz_f c4_ h
        refine jr_iconst 63 0 C d_Ba_isStillTrue_63 (by decide) ?_
        obtain rfl := Option.some.inj h
        exact jr_zret 64 (v := 0) C d_Ba_isStillTrue_64 rfl nb_0
def f_Ba_isStillTrue (o0 : Nat) (a1 : Int32) (m : jz_M) : Option (Int32) :=
  (jz_ix 42 a1).bind fun j1_ =>
  if (m (o0 + 3) j1_) ≤ 5 then
    some 0
  else
    (jz_ix 42 a1).bind fun j3_ =>
    if ¬ (m (o0 + 5) j3_) = (m 146 2) then
      some 0
    else
      (jz_ix 42 a1).bind fun j5_ =>
      if (m (o0 + 7) j5_) = (m 146 0) then
        f_Ba_isStillTrue_40 m 1000 o0 a1 0
      else
        some 0
set_option maxHeartbeats 4000000 in
set_option maxRecDepth 100000 in
theorem c_Ba_isStillTrue {Z : cz_Z} (l : Launch) (hI : jz_I (cz_G Z)) {o0 : Nat} {a1 : Int32} {m : jz_M} {r : Int32} (ko0 : kz_Ba o0) (h : f_Ba_isStillTrue o0 a1 m = some r) : jz_m l y_Ba_isStillTrue cd_Ba_isStillTrue rm_Ba_isStillTrue (cz_G Z) [.ref (gz_ad (cz_G Z) o0), .int a1, .ref (gz_ad (cz_G Z) 146)] m (some (.int r)) m := by
  refine jz_met (own := R_Ba) (by decide) rfl hI (Nat.le_of_ble_eq_true rfl) (fun X hX C => ?_)
  subst hX
  show jz_J X 4 (cz_G Z) _ m [(0, .ref (gz_ad (cz_G Z) o0)), (1, .int a1), (2, .ref (gz_ad (cz_G Z) 146))] 0 []
  unfold f_Ba_isStillTrue at h
  refine jr_aload_n 0 C d_Ba_isStillTrue_0 rfl ?_
  refine gf_Ba_18 1 C d_Ba_isStillTrue_1 ko0 ?_
  refine jr_iload_n 4 C d_Ba_isStillTrue_4 rfl ?_
  obtain ⟨j1_, ej1_, h⟩ := jz_b h
  refine jr_iald 5 C d_Ba_isStillTrue_5 (zk_Ba_lives ko0) ej1_ ?_
  refine jr_iconst 6 5 C d_Ba_isStillTrue_6 (by decide) ?_
  refine jr_icmp_le 7 36 C d_Ba_isStillTrue_7 (by decide) (fun c2_ => ?_) (fun c2_ => ?_)
  · have h := jz_t c2_ h
    refine jr_iconst 36 0 C d_Ba_isStillTrue_36 (by decide) ?_
    obtain rfl := Option.some.inj h
    exact jr_zret 37 (v := 0) C d_Ba_isStillTrue_37 rfl nb_0
  · have h := jz_f c2_ h
    refine jr_aload_n 10 C d_Ba_isStillTrue_10 rfl ?_
    refine gf_Ba_24 11 C d_Ba_isStillTrue_11 ko0 ?_
    refine jr_iload_n 14 C d_Ba_isStillTrue_14 rfl ?_
    obtain ⟨j3_, ej3_, h⟩ := jz_b h
    refine jr_zald 15 C d_Ba_isStillTrue_15 (zk_Ba_exits ko0) ej3_ ?_
    refine jr_aload_n 16 C d_Ba_isStillTrue_16 rfl ?_
    refine gf_Ba_69 17 C d_Ba_isStillTrue_17 ?_
    refine jr_icmp_ne 20 36 C d_Ba_isStillTrue_20 (by decide) (fun c4_ => ?_) (fun c4_ => ?_)
    · have h := jz_t c4_ h
      refine jr_iconst 36 0 C d_Ba_isStillTrue_36 (by decide) ?_
      obtain rfl := Option.some.inj h
      exact jr_zret 37 (v := 0) C d_Ba_isStillTrue_37 rfl nb_0
    · have h := jz_f c4_ h
      refine jr_aload_n 23 C d_Ba_isStillTrue_23 rfl ?_
      refine gf_Ba_31 24 C d_Ba_isStillTrue_24 ko0 ?_
      refine jr_iload_n 27 C d_Ba_isStillTrue_27 rfl ?_
      obtain ⟨j5_, ej5_, h⟩ := jz_b h
      refine jr_iald 28 C d_Ba_isStillTrue_28 (zk_Ba_linkCounts ko0) ej5_ ?_
      refine jr_aload_n 29 C d_Ba_isStillTrue_29 rfl ?_
      refine gf_Ba_75 30 C d_Ba_isStillTrue_30 ?_
      refine jr_icmp_eq 33 38 C d_Ba_isStillTrue_33 (by decide) (fun c6_ => ?_) (fun c6_ => ?_)
      · have h := jz_t c6_ h
        refine jr_iconst 38 0 C d_Ba_isStillTrue_38 (by decide) ?_
        refine jr_istore_n 39 [(0, .ref (gz_ad (cz_G Z) o0)), (1, .int a1), (2, .ref (gz_ad (cz_G Z) 146)), (3, .int 0)] C d_Ba_isStillTrue_39 rfl (by decide) rfl ?_
        refine jr_sub [0, 1, 2, 3] rfl ?_
        exact t_Ba_isStillTrue_40 C  1000 o0 a1 0 ko0 h
      · have h := jz_f c6_ h
        refine jr_iconst 36 0 C d_Ba_isStillTrue_36 (by decide) ?_
        obtain rfl := Option.some.inj h
        exact jr_zret 37 (v := 0) C d_Ba_isStillTrue_37 rfl nb_0
abbrev rm_AR_bringUpToDate : Room := { frames := 5, cells := 0, slots := 0, locals := 114 }
abbrev cd_AR_bringUpToDate : Cond := .code y_AR_bringUpToDate b_AR_bringUpToDate 6 (some .boolean)
def f_AR_bringUpToDate (a1 : Int32) (a2 : Int32) (a3 : Int32) (m : jz_M) : Option (Int32 × jz_M) :=
  (f_AR_baseOf a1 a2 m).bind fun v1_ =>
  (f_AR_nameOf a1 a3 m).bind fun v2_ =>
  (f_AR_draftPart a1 a2 a3 m).bind fun v3_ =>
  if v3_.1 = 0 then
    (f_Ba_isAlive v1_ v2_ v3_.2).bind fun v5_ =>
    if ¬ v5_ = 0 then
      (f_Wi_circuitsOf a1 v3_.2).bind fun v7_ =>
      (f_Ba_end v1_ v2_ v7_ v3_.2).bind fun v8_ =>
      some (1, v8_)
    else
      some (0, v3_.2)
  else
    (f_Ba_isStillTrue v1_ v2_ v3_.2).bind fun v9_ =>
    if v9_ = 0 then
      (f_Wi_circuitsOf a1 v3_.2).bind fun v11_ =>
      (f_Ba_renew v1_ v2_ v11_ v3_.2).bind fun v12_ =>
      some (1, v12_)
    else
      some (0, v3_.2)
set_option maxHeartbeats 4000000 in
set_option maxRecDepth 100000 in
theorem c_AR_bringUpToDate {Z : cz_Z} (l : Launch) (hI : jz_I (cz_G Z)) {a1 : Int32} {a2 : Int32} {a3 : Int32} {m : jz_M} {r : Int32 × jz_M} (h : f_AR_bringUpToDate a1 a2 a3 m = some r) : jz_m l y_AR_bringUpToDate cd_AR_bringUpToDate rm_AR_bringUpToDate (cz_G Z) [.ref (gz_ad (cz_G Z) 0), .int a1, .int a2, .int a3] m (some (.int r.1)) r.2 := by
  refine jz_met (own := R_AR) (by decide) rfl hI (Nat.le_of_ble_eq_true rfl) (fun X hX C => ?_)
  subst hX
  show jz_J X 6 (cz_G Z) _ m [(0, .ref (gz_ad (cz_G Z) 0)), (1, .int a1), (2, .int a2), (3, .int a3)] 0 []
  unfold f_AR_bringUpToDate at h
  refine jr_aload_n 0 C d_AR_bringUpToDate_0 rfl ?_
  refine jr_iload_n 1 C d_AR_bringUpToDate_1 rfl ?_
  refine jr_iload_n 2 C d_AR_bringUpToDate_2 rfl ?_
  obtain ⟨v1_, ev1_, h⟩ := jz_b h
  refine jr_callV 3 [.int a1, .int a2] C d_AR_bringUpToDate_3 (c_AR_baseOf (xz_l X) C.2.2.2.2.2.2.1 ev1_) sz_AR_baseOf tz_AR_baseOf lk_AR_87 oz_AR rfl (by decide) rfl rfl (Nat.le_of_ble_eq_true rfl) rfl ?_
  refine jr_astore 6 [(0, .ref (gz_ad (cz_G Z) 0)), (1, .int a1), (2, .int a2), (3, .int a3), (4, .ref (gz_ad (cz_G Z) v1_))] C d_AR_bringUpToDate_6 rfl (by decide) rfl ?_
  refine jr_iload_n 8 C d_AR_bringUpToDate_8 rfl ?_
  refine jr_iload_n 9 C d_AR_bringUpToDate_9 rfl ?_
  obtain ⟨v2_, ev2_, h⟩ := jz_b h
  refine jr_callS 10 [.int a1, .int a3] C d_AR_bringUpToDate_10 (c_AR_nameOf (xz_l X) C.2.2.2.2.2.2.1 ev2_) sz_AR_nameOf tz_AR_nameOf lk_AR_215 (by decide) rfl rfl (Nat.le_of_ble_eq_true rfl) rfl ?_
  refine jr_istore 13 [(0, .ref (gz_ad (cz_G Z) 0)), (1, .int a1), (2, .int a2), (3, .int a3), (4, .ref (gz_ad (cz_G Z) v1_)), (5, .int v2_)] C d_AR_bringUpToDate_13 rfl (by decide) rfl ?_
  refine jr_aload_n 15 C d_AR_bringUpToDate_15 rfl ?_
  refine jr_iload_n 16 C d_AR_bringUpToDate_16 rfl ?_
  refine jr_iload_n 17 C d_AR_bringUpToDate_17 rfl ?_
  refine jr_iload_n 18 C d_AR_bringUpToDate_18 rfl ?_
  obtain ⟨v3_, ev3_, h⟩ := jz_b h
  refine jr_callV 19 [.int a1, .int a2, .int a3] C d_AR_bringUpToDate_19 (c_AR_draftPart (xz_l X) C.2.2.2.2.2.2.1 ev3_) sz_AR_draftPart tz_AR_draftPart lk_AR_224 oz_AR rfl (by decide) rfl rfl (Nat.le_of_ble_eq_true rfl) rfl ?_
  refine jr_if_eq 22 62 C d_AR_bringUpToDate_22 (by decide) (fun c4_ => ?_) (fun c4_ => ?_)
  · have h := jz_t c4_ h
    refine jr_aload 62 C d_AR_bringUpToDate_62 rfl ?_
    refine jr_iload 64 C d_AR_bringUpToDate_64 rfl ?_
    obtain ⟨v5_, ev5_, h⟩ := jz_b h
    refine jr_callVN 66 [.int v2_] C d_AR_bringUpToDate_66 (c_Ba_isAlive (xz_l X) C.2.2.2.2.2.2.1 (kr_AR_baseOf ev1_) ev5_) sz_Ba_isAlive tz_Ba_isAlive lk_AR_235 (oz_Ba (kr_AR_baseOf ev1_)) rfl (by decide) rfl rfl (Nat.le_of_ble_eq_true rfl) rfl ?_
    refine jr_if_ne 69 74 C d_AR_bringUpToDate_69 (by decide) (fun c6_ => ?_) (fun c6_ => ?_)
    · have h := jz_t c6_ h
      refine jr_aload 74 C d_AR_bringUpToDate_74 rfl ?_
      refine jr_iload 76 C d_AR_bringUpToDate_76 rfl ?_
      refine jr_aload_n 78 C d_AR_bringUpToDate_78 rfl ?_
      refine gf_AR_19 79 C d_AR_bringUpToDate_79 ?_
      refine jr_iload_n 82 C d_AR_bringUpToDate_82 rfl ?_
      obtain ⟨v7_, ev7_, h⟩ := jz_b h
      refine jr_callVN 83 [.int a1] C d_AR_bringUpToDate_83 (c_Wi_circuitsOf (xz_l X) C.2.2.2.2.2.2.1  ev7_) sz_Wi_circuitsOf tz_Wi_circuitsOf lk_AR_55 oz_Wi rfl (by decide) rfl rfl (Nat.le_of_ble_eq_true rfl) rfl ?_
      obtain ⟨v8_, ev8_, h⟩ := jz_b h
      refine jr_callVN 86 [.int v2_, .int v7_] C d_AR_bringUpToDate_86 (c_Ba_end (xz_l X) C.2.2.2.2.2.2.1 (kr_AR_baseOf ev1_) ev8_) sz_Ba_end tz_Ba_end lk_AR_238 (oz_Ba (kr_AR_baseOf ev1_)) rfl (by decide) rfl rfl (Nat.le_of_ble_eq_true rfl) rfl ?_
      refine jr_iconst 89 1 C d_AR_bringUpToDate_89 (by decide) ?_
      obtain rfl := Option.some.inj h
      exact jr_zret 90 (v := 1) C d_AR_bringUpToDate_90 rfl nb_1
    · have h := jz_f c6_ h
      refine jr_iconst 72 0 C d_AR_bringUpToDate_72 (by decide) ?_
      obtain rfl := Option.some.inj h
      exact jr_zret 73 (v := 0) C d_AR_bringUpToDate_73 rfl nb_0
  · have h := jz_f c4_ h
    refine jr_aload 25 C d_AR_bringUpToDate_25 rfl ?_
    refine jr_iload 27 C d_AR_bringUpToDate_27 rfl ?_
    refine jr_aload_n 29 C d_AR_bringUpToDate_29 rfl ?_
    refine gf_AR_40 30 C d_AR_bringUpToDate_30 ?_
    obtain ⟨v9_, ev9_, h⟩ := jz_b h
    refine jr_callVN 33 [.int v2_, .ref (gz_ad (cz_G Z) 146)] C d_AR_bringUpToDate_33 (c_Ba_isStillTrue (xz_l X) C.2.2.2.2.2.2.1 (kr_AR_baseOf ev1_) ev9_) sz_Ba_isStillTrue tz_Ba_isStillTrue lk_AR_227 (oz_Ba (kr_AR_baseOf ev1_)) rfl (by decide) rfl rfl (Nat.le_of_ble_eq_true rfl) rfl ?_
    refine jr_if_eq 36 41 C d_AR_bringUpToDate_36 (by decide) (fun c10_ => ?_) (fun c10_ => ?_)
    · have h := jz_t c10_ h
      refine jr_aload 41 C d_AR_bringUpToDate_41 rfl ?_
      refine jr_iload 43 C d_AR_bringUpToDate_43 rfl ?_
      refine jr_aload_n 45 C d_AR_bringUpToDate_45 rfl ?_
      refine gf_AR_40 46 C d_AR_bringUpToDate_46 ?_
      refine jr_aload_n 49 C d_AR_bringUpToDate_49 rfl ?_
      refine gf_AR_19 50 C d_AR_bringUpToDate_50 ?_
      refine jr_iload_n 53 C d_AR_bringUpToDate_53 rfl ?_
      obtain ⟨v11_, ev11_, h⟩ := jz_b h
      refine jr_callVN 54 [.int a1] C d_AR_bringUpToDate_54 (c_Wi_circuitsOf (xz_l X) C.2.2.2.2.2.2.1  ev11_) sz_Wi_circuitsOf tz_Wi_circuitsOf lk_AR_55 oz_Wi rfl (by decide) rfl rfl (Nat.le_of_ble_eq_true rfl) rfl ?_
      obtain ⟨v12_, ev12_, h⟩ := jz_b h
      refine jr_callVN 57 [.int v2_, .ref (gz_ad (cz_G Z) 146), .int v11_] C d_AR_bringUpToDate_57 (c_Ba_renew (xz_l X) C.2.2.2.2.2.2.1 (kr_AR_baseOf ev1_) ev12_) sz_Ba_renew tz_Ba_renew lk_AR_231 (oz_Ba (kr_AR_baseOf ev1_)) rfl (by decide) rfl rfl (Nat.le_of_ble_eq_true rfl) rfl ?_
      refine jr_iconst 60 1 C d_AR_bringUpToDate_60 (by decide) ?_
      obtain rfl := Option.some.inj h
      exact jr_zret 61 (v := 1) C d_AR_bringUpToDate_61 rfl nb_1
    · have h := jz_f c10_ h
      refine jr_iconst 39 0 C d_AR_bringUpToDate_39 (by decide) ?_
      obtain rfl := Option.some.inj h
      exact jr_zret 40 (v := 0) C d_AR_bringUpToDate_40 rfl nb_0
abbrev rm_AR_describe : Room := { frames := 6, cells := 0, slots := 0, locals := 139 }
abbrev cd_AR_describe : Cond := .code y_AR_describe b_AR_describe 5 (some .int)
def f_AR_describe_38 (k21 : Int32 → Int32 → Int32 → jz_M → Option (Int32 × jz_M)) : Nat → Int32 → Int32 → Int32 → Int32 → jz_M → Option (Int32 × jz_M)
  | 0, _, _, _, _, _ => none
  | fu + 1, x1, x2, x3, x4, m =>
    if 7 ≤ x4 then
      jz_n (x3 + 1) fun x2_ =>
      k21 x1 x2 x2_ m
    else
      (f_AR_bringUpToDate x1 x3 x4 m).bind fun v3_ =>
      if v3_.1 = 0 then
        jz_n (x4 + 1) fun x5_ =>
        f_AR_describe_38 k21 fu x1 x2 x3 x5_ v3_.2
      else
        jz_n (x2 + 1) fun x6_ =>
        jz_n (x4 + 1) fun x7_ =>
        f_AR_describe_38 k21 fu x1 x6_ x3 x7_ v3_.2
set_option maxHeartbeats 4000000 in
set_option maxRecDepth 100000 in
theorem t_AR_describe_38 {Z : cz_Z} {X : jz_X} {r : Int32 × jz_M} (C : jz_C X 5 b_AR_describe R_AR (some .int) rm_AR_describe (cz_G Z)) (k21 : Int32 → Int32 → Int32 → jz_M → Option (Int32 × jz_M)) (hk21 : ∀ (x1 : Int32) (x2 : Int32) (x3 : Int32) (m : jz_M), k21 x1 x2 x3 m = some r → jz_J X 5 (cz_G Z) (jz_q X (cz_G Z) (some (.int r.1)) r.2) m [(0, .ref (gz_ad (cz_G Z) 0)), (1, .int x1), (2, .int x2), (3, .int x3)] 21 []) : ∀ (fu : Nat) (x1 : Int32) (x2 : Int32) (x3 : Int32) (x4 : Int32) (m : jz_M) , f_AR_describe_38 k21 fu x1 x2 x3 x4 m = some r → jz_J X 5 (cz_G Z) (jz_q X (cz_G Z) (some (.int r.1)) r.2) m [(0, .ref (gz_ad (cz_G Z) 0)), (1, .int x1), (2, .int x2), (3, .int x3), (4, .int x4)] 38 [] := by
  intro fu
  induction fu with
  | zero => intro x1 x2 x3 x4 m h; cases h
  | succ fu ih =>
    intro x1 x2 x3 x4 m h
    rw [f_AR_describe_38] at h
    refine jr_iload 38 C d_AR_describe_38 rfl ?_
    refine jr_bipush 40 7 C d_AR_describe_40 (by decide) ?_
    refine jr_icmp_ge 42 65 C d_AR_describe_42 (by decide) (fun c1_ => ?_) (fun c1_ => ?_)
    · have h := jz_t c1_ h
      obtain ⟨x2_, ex2_, h⟩ := jz_ne h
      refine jr_iinc 65 [(0, .ref (gz_ad (cz_G Z) 0)), (1, .int x1), (2, .int x2), (3, .int x2_), (4, .int x4)] C d_AR_describe_65 rfl (by decide) rfl (by rw [ex2_]; rfl) rfl ?_
      refine jr_goto 68 21 C d_AR_describe_68 (by decide) ?_
      refine jr_sub [0, 1, 2, 3] rfl ?_
      exact hk21 x1 x2 x2_ m  h
    · have h := jz_f c1_ h
      refine jr_aload_n 45 C d_AR_describe_45 rfl ?_
      refine jr_iload_n 46 C d_AR_describe_46 rfl ?_
      refine jr_iload_n 47 C d_AR_describe_47 rfl ?_
      refine jr_iload 48 C d_AR_describe_48 rfl ?_
      obtain ⟨v3_, ev3_, h⟩ := jz_b h
      refine jr_callV 50 [.int x1, .int x3, .int x4] C d_AR_describe_50 (c_AR_bringUpToDate (xz_l X) C.2.2.2.2.2.2.1  ev3_) sz_AR_bringUpToDate tz_AR_bringUpToDate lk_AR_137 oz_AR rfl (by decide) rfl rfl (Nat.le_of_ble_eq_true rfl) rfl ?_
      refine jr_if_eq 53 59 C d_AR_describe_53 (by decide) (fun c4_ => ?_) (fun c4_ => ?_)
      · have h := jz_t c4_ h
        obtain ⟨x5_, ex5_, h⟩ := jz_ne h
        refine jr_iinc 59 [(0, .ref (gz_ad (cz_G Z) 0)), (1, .int x1), (2, .int x2), (3, .int x3), (4, .int x5_)] C d_AR_describe_59 rfl (by decide) rfl (by rw [ex5_]; rfl) rfl ?_
        refine jr_goto 62 38 C d_AR_describe_62 (by decide) ?_
        refine jr_sub [0, 1, 2, 3, 4] rfl ?_
        exact ih x1 x2 x3 x5_ v3_.2  h
      · have h := jz_f c4_ h
        obtain ⟨x6_, ex6_, h⟩ := jz_ne h
        refine jr_iinc 56 [(0, .ref (gz_ad (cz_G Z) 0)), (1, .int x1), (2, .int x6_), (3, .int x3), (4, .int x4)] C d_AR_describe_56 rfl (by decide) rfl (by rw [ex6_]; rfl) rfl ?_
        obtain ⟨x7_, ex7_, h⟩ := jz_ne h
        refine jr_iinc 59 [(0, .ref (gz_ad (cz_G Z) 0)), (1, .int x1), (2, .int x6_), (3, .int x3), (4, .int x7_)] C d_AR_describe_59 rfl (by decide) rfl (by rw [ex7_]; rfl) rfl ?_
        refine jr_goto 62 38 C d_AR_describe_62 (by decide) ?_
        refine jr_sub [0, 1, 2, 3, 4] rfl ?_
        exact ih x1 x6_ x3 x7_ v3_.2  h
def f_AR_describe_21 : Nat → Int32 → Int32 → Int32 → jz_M → Option (Int32 × jz_M)
  | 0, _, _, _, _ => none
  | fu + 1, x1, x2, x3, m =>
    if 2 < x3 then
      some (x2, m)
    else
      (f_AR_hasLevel x1 x3 m).bind fun v2_ =>
      if v2_ = 0 then
        jz_n (x3 + 1) fun x4_ =>
        f_AR_describe_21 fu x1 x2 x4_ m
      else
        f_AR_describe_38 (f_AR_describe_21 fu) 1000 x1 x2 x3 0 m
set_option maxHeartbeats 4000000 in
set_option maxRecDepth 100000 in
theorem t_AR_describe_21 {Z : cz_Z} {X : jz_X} {r : Int32 × jz_M} (C : jz_C X 5 b_AR_describe R_AR (some .int) rm_AR_describe (cz_G Z)) : ∀ (fu : Nat) (x1 : Int32) (x2 : Int32) (x3 : Int32) (m : jz_M) , f_AR_describe_21 fu x1 x2 x3 m = some r → jz_J X 5 (cz_G Z) (jz_q X (cz_G Z) (some (.int r.1)) r.2) m [(0, .ref (gz_ad (cz_G Z) 0)), (1, .int x1), (2, .int x2), (3, .int x3)] 21 [] := by
  intro fu
  induction fu with
  | zero => intro x1 x2 x3 m h; cases h
  | succ fu ih =>
    intro x1 x2 x3 m h
    rw [f_AR_describe_21] at h
    refine jr_iload_n 21 C d_AR_describe_21 rfl ?_
    refine jr_iconst 22 2 C d_AR_describe_22 (by decide) ?_
    refine jr_icmp_gt 23 71 C d_AR_describe_23 (by decide) (fun c1_ => ?_) (fun c1_ => ?_)
    · have h := jz_t c1_ h
      refine jr_iload_n 71 C d_AR_describe_71 rfl ?_
      obtain rfl := Option.some.inj h
      exact jr_iret 72 (v := x2) C d_AR_describe_72 rfl
    · have h := jz_f c1_ h
      refine jr_aload_n 26 C d_AR_describe_26 rfl ?_
      refine jr_iload_n 27 C d_AR_describe_27 rfl ?_
      refine jr_iload_n 28 C d_AR_describe_28 rfl ?_
      obtain ⟨v2_, ev2_, h⟩ := jz_b h
      refine jr_callV 29 [.int x1, .int x3] C d_AR_describe_29 (c_AR_hasLevel (xz_l X) C.2.2.2.2.2.2.1  ev2_) sz_AR_hasLevel tz_AR_hasLevel lk_AR_134 oz_AR rfl (by decide) rfl rfl (Nat.le_of_ble_eq_true rfl) rfl ?_
      refine jr_if_eq 32 65 C d_AR_describe_32 (by decide) (fun c3_ => ?_) (fun c3_ => ?_)
      · have h := jz_t c3_ h
        obtain ⟨x4_, ex4_, h⟩ := jz_ne h
        refine jr_iinc 65 [(0, .ref (gz_ad (cz_G Z) 0)), (1, .int x1), (2, .int x2), (3, .int x4_)] C d_AR_describe_65 rfl (by decide) rfl (by rw [ex4_]; rfl) rfl ?_
        refine jr_goto 68 21 C d_AR_describe_68 (by decide) ?_
        refine jr_sub [0, 1, 2, 3] rfl ?_
        exact ih x1 x2 x4_ m  h
      · have h := jz_f c3_ h
        refine jr_iconst 35 0 C d_AR_describe_35 (by decide) ?_
        refine jr_istore 36 [(0, .ref (gz_ad (cz_G Z) 0)), (1, .int x1), (2, .int x2), (3, .int x3), (4, .int 0)] C d_AR_describe_36 rfl (by decide) rfl ?_
        refine jr_sub [0, 1, 2, 3, 4] rfl ?_
        exact t_AR_describe_38 C (f_AR_describe_21 fu) ih 1000 x1 x2 x3 0 m h
def f_AR_describe (a1 : Int32) (m : jz_M) : Option (Int32 × jz_M) :=
  (f_AR_isRouter a1 m).bind fun v1_ =>
  if ¬ v1_ = 0 then
    f_AR_describe_21 1000 a1 0 1 m
  else
    none
set_option maxHeartbeats 4000000 in
set_option maxRecDepth 100000 in
theorem c_AR_describe {Z : cz_Z} (l : Launch) (hI : jz_I (cz_G Z)) {a1 : Int32} {m : jz_M} {r : Int32 × jz_M} (h : f_AR_describe a1 m = some r) : jz_m l y_AR_describe cd_AR_describe rm_AR_describe (cz_G Z) [.ref (gz_ad (cz_G Z) 0), .int a1] m (some (.int r.1)) r.2 := by
  refine jz_met (own := R_AR) (by decide) rfl hI (Nat.le_of_ble_eq_true rfl) (fun X hX C => ?_)
  subst hX
  show jz_J X 5 (cz_G Z) _ m [(0, .ref (gz_ad (cz_G Z) 0)), (1, .int a1)] 0 []
  unfold f_AR_describe at h
  refine jr_iload_n 0 C d_AR_describe_0 rfl ?_
  obtain ⟨v1_, ev1_, h⟩ := jz_b h
  refine jr_callS 1 [.int a1] C d_AR_describe_1 (c_AR_isRouter (xz_l X) C.2.2.2.2.2.2.1 ev1_) sz_AR_isRouter tz_AR_isRouter lk_AR_51 (by decide) rfl rfl (Nat.le_of_ble_eq_true rfl) rfl ?_
  refine jr_if_ne 4 17 C d_AR_describe_4 (by decide) (fun c2_ => ?_) (fun c2_ => ?_)
  · have h := jz_t c2_ h
    refine jr_iconst 17 0 C d_AR_describe_17 (by decide) ?_
    refine jr_istore_n 18 [(0, .ref (gz_ad (cz_G Z) 0)), (1, .int a1), (2, .int 0)] C d_AR_describe_18 rfl (by decide) rfl ?_
    refine jr_iconst 19 1 C d_AR_describe_19 (by decide) ?_
    refine jr_istore_n 20 [(0, .ref (gz_ad (cz_G Z) 0)), (1, .int a1), (2, .int 0), (3, .int 1)] C d_AR_describe_20 rfl (by decide) rfl ?_
    refine jr_sub [0, 1, 2, 3] rfl ?_
    exact t_AR_describe_21 C  1000 a1 0 1 m h
  · have h := jz_f c2_ h
    cases h
abbrev rm_He_age : Room := { frames := 0, cells := 0, slots := 0, locals := 0 }
abbrev cd_He_age : Cond := .code y_He_age b_He_age 2 none
def f_He_age_2 : Nat → Nat → Int32 → jz_M → Option (jz_M)
  | 0, _, _, _ => none
  | fu + 1, o0, x1, m =>
    if 216 ≤ x1 then
      some m
    else
      (jz_ix 216 x1).bind fun j2_ =>
      if (m (o0 + 1) j2_) ≤ 0 then
        jz_n (x1 + 1) fun x4_ =>
        f_He_age_2 fu o0 x4_ m
      else
        (jz_ix 216 x1).bind fun j5_ =>
        (jz_ix 216 x1).bind fun j6_ =>
        jz_n (jz_up m (o0 + 1) j6_ ((m (o0 + 1) j5_) - 1)) fun m7_ =>
        jz_n (x1 + 1) fun x8_ =>
        f_He_age_2 fu o0 x8_ m7_
set_option maxHeartbeats 4000000 in
set_option maxRecDepth 100000 in
theorem t_He_age_2 {Z : cz_Z} {X : jz_X} {r : jz_M} (C : jz_C X 2 b_He_age R_He none rm_He_age (cz_G Z)) : ∀ (fu : Nat) (o0 : Nat) (x1 : Int32) (m : jz_M) , kz_He o0 → f_He_age_2 fu o0 x1 m = some r → jz_J X 2 (cz_G Z) (jz_q X (cz_G Z) none r) m [(0, .ref (gz_ad (cz_G Z) o0)), (1, .int x1)] 2 [] := by
  intro fu
  induction fu with
  | zero => intro o0 x1 m k0 h; cases h
  | succ fu ih =>
    intro o0 x1 m k0 h
    rw [f_He_age_2] at h
    refine jr_iload_n 2 C d_He_age_2 rfl ?_
    refine jr_sipush 3 216 C d_He_age_3 (by decide) ?_
    refine jr_icmp_ge 6 34 C d_He_age_6 (by decide) (fun c1_ => ?_) (fun c1_ => ?_)
    · have h := jz_t c1_ h
      obtain rfl := Option.some.inj h
      exact jr_vret 34 C d_He_age_34 rfl
    · have h := jz_f c1_ h
      refine jr_aload_n 9 C d_He_age_9 rfl ?_
      refine gf_He_11 10 C d_He_age_10 k0 ?_
      refine jr_iload_n 13 C d_He_age_13 rfl ?_
      obtain ⟨j2_, ej2_, h⟩ := jz_b h
      refine jr_iald 14 C d_He_age_14 (zk_He_ticksLeft k0) ej2_ ?_
      refine jr_if_le 15 28 C d_He_age_15 (by decide) (fun c3_ => ?_) (fun c3_ => ?_)
      · have h := jz_t c3_ h
        obtain ⟨x4_, ex4_, h⟩ := jz_ne h
        refine jr_iinc 28 [(0, .ref (gz_ad (cz_G Z) o0)), (1, .int x4_)] C d_He_age_28 rfl (by decide) rfl (by rw [ex4_]; rfl) rfl ?_
        refine jr_goto 31 2 C d_He_age_31 (by decide) ?_
        refine jr_sub [0, 1] rfl ?_
        exact ih o0 x4_ m k0 h
      · have h := jz_f c3_ h
        refine jr_aload_n 18 C d_He_age_18 rfl ?_
        refine gf_He_11 19 C d_He_age_19 k0 ?_
        refine jr_iload_n 22 C d_He_age_22 rfl ?_
        refine jr_dup2 23 C d_He_age_23 rfl rfl ?_
        obtain ⟨j5_, ej5_, h⟩ := jz_b h
        refine jr_iald 24 C d_He_age_24 (zk_He_ticksLeft k0) ej5_ ?_
        refine jr_iconst 25 1 C d_He_age_25 (by decide) ?_
        refine jr_isub 26 C d_He_age_26 ?_
        obtain ⟨j6_, ej6_, h⟩ := jz_b h
        obtain ⟨m7_, em7_, h⟩ := jz_ne h
        refine jr_iast 27 C d_He_age_27 (zk_He_ticksLeft k0) ej6_ ?_
        refine jr_mem em7_ ?_
        obtain ⟨x8_, ex8_, h⟩ := jz_ne h
        refine jr_iinc 28 [(0, .ref (gz_ad (cz_G Z) o0)), (1, .int x8_)] C d_He_age_28 rfl (by decide) rfl (by rw [ex8_]; rfl) rfl ?_
        refine jr_goto 31 2 C d_He_age_31 (by decide) ?_
        refine jr_sub [0, 1] rfl ?_
        exact ih o0 x8_ m7_ k0 h
def f_He_age (o0 : Nat) (m : jz_M) : Option (jz_M) :=
  f_He_age_2 1000 o0 0 m
set_option maxHeartbeats 4000000 in
set_option maxRecDepth 100000 in
theorem c_He_age {Z : cz_Z} (l : Launch) (hI : jz_I (cz_G Z)) {o0 : Nat} {m : jz_M} {r : jz_M} (ko0 : kz_He o0) (h : f_He_age o0 m = some r) : jz_m l y_He_age cd_He_age rm_He_age (cz_G Z) [.ref (gz_ad (cz_G Z) o0)] m none r := by
  refine jz_met (own := R_He) (by decide) rfl hI (Nat.le_of_ble_eq_true rfl) (fun X hX C => ?_)
  subst hX
  show jz_J X 2 (cz_G Z) _ m [(0, .ref (gz_ad (cz_G Z) o0))] 0 []
  unfold f_He_age at h
  refine jr_iconst 0 0 C d_He_age_0 (by decide) ?_
  refine jr_istore_n 1 [(0, .ref (gz_ad (cz_G Z) o0)), (1, .int 0)] C d_He_age_1 rfl (by decide) rfl ?_
  refine jr_sub [0, 1] rfl ?_
  exact t_He_age_2 C 1000 o0 0 m ko0 h
abbrev rm_Ba_remove : Room := { frames := 0, cells := 0, slots := 0, locals := 0 }
abbrev cd_Ba_remove : Cond := .code y_Ba_remove b_Ba_remove 2 none
def f_Ba_remove (o0 : Nat) (a1 : Int32) (m : jz_M) : Option (jz_M) :=
  (jz_ix 42 a1).bind fun j1_ =>
  jz_n (jz_up m (o0 + 1) j1_ 0) fun m2_ =>
  (jz_ix 42 a1).bind fun j3_ =>
  jz_n (jz_up m2_ (o0 + 7) j3_ 0) fun m4_ =>
  (jz_ix 42 a1).bind fun j5_ =>
  jz_n (jz_up m4_ (o0 + 9) j5_ 0) fun m6_ =>
  (jz_ix 42 a1).bind fun j7_ =>
  jz_n (jz_up m6_ (o0 + 10) j7_ 0) fun m8_ =>
  some m8_
set_option maxHeartbeats 4000000 in
set_option maxRecDepth 100000 in
theorem c_Ba_remove {Z : cz_Z} (l : Launch) (hI : jz_I (cz_G Z)) {o0 : Nat} {a1 : Int32} {m : jz_M} {r : jz_M} (ko0 : kz_Ba o0) (h : f_Ba_remove o0 a1 m = some r) : jz_m l y_Ba_remove cd_Ba_remove rm_Ba_remove (cz_G Z) [.ref (gz_ad (cz_G Z) o0), .int a1] m none r := by
  refine jz_met (own := R_Ba) (by decide) rfl hI (Nat.le_of_ble_eq_true rfl) (fun X hX C => ?_)
  subst hX
  show jz_J X 2 (cz_G Z) _ m [(0, .ref (gz_ad (cz_G Z) o0)), (1, .int a1)] 0 []
  unfold f_Ba_remove at h
  refine jr_aload_n 0 C d_Ba_remove_0 rfl ?_
  refine gf_Ba_9 1 C d_Ba_remove_1 ko0 ?_
  refine jr_iload_n 4 C d_Ba_remove_4 rfl ?_
  refine jr_iconst 5 0 C d_Ba_remove_5 (by decide) ?_
  obtain ⟨j1_, ej1_, h⟩ := jz_b h
  obtain ⟨m2_, em2_, h⟩ := jz_ne h
  refine jr_iast 6 C d_Ba_remove_6 (zk_Ba_sequences ko0) ej1_ ?_
  refine jr_mem em2_ ?_
  refine jr_aload_n 7 C d_Ba_remove_7 rfl ?_
  refine gf_Ba_31 8 C d_Ba_remove_8 ko0 ?_
  refine jr_iload_n 11 C d_Ba_remove_11 rfl ?_
  refine jr_iconst 12 0 C d_Ba_remove_12 (by decide) ?_
  obtain ⟨j3_, ej3_, h⟩ := jz_b h
  obtain ⟨m4_, em4_, h⟩ := jz_ne h
  refine jr_iast 13 C d_Ba_remove_13 (zk_Ba_linkCounts ko0) ej3_ ?_
  refine jr_mem em4_ ?_
  refine jr_aload_n 14 C d_Ba_remove_14 rfl ?_
  refine gf_Ba_37 15 C d_Ba_remove_15 ko0 ?_
  refine jr_iload_n 18 C d_Ba_remove_18 rfl ?_
  refine jr_iconst 19 0 C d_Ba_remove_19 (by decide) ?_
  obtain ⟨j5_, ej5_, h⟩ := jz_b h
  obtain ⟨m6_, em6_, h⟩ := jz_ne h
  refine jr_iast 20 C d_Ba_remove_20 (zk_Ba_due ko0) ej5_ ?_
  refine jr_mem em6_ ?_
  refine jr_aload_n 21 C d_Ba_remove_21 rfl ?_
  refine gf_Ba_40 22 C d_Ba_remove_22 ko0 ?_
  refine jr_iload_n 25 C d_Ba_remove_25 rfl ?_
  refine jr_iconst 26 0 C d_Ba_remove_26 (by decide) ?_
  obtain ⟨j7_, ej7_, h⟩ := jz_b h
  obtain ⟨m8_, em8_, h⟩ := jz_ne h
  refine jr_iast 27 C d_Ba_remove_27 (zk_Ba_asked ko0) ej7_ ?_
  refine jr_mem em8_ ?_
  obtain rfl := Option.some.inj h
  exact jr_vret 28 C d_Ba_remove_28 rfl
abbrev rm_Ba_age : Room := { frames := 1, cells := 0, slots := 0, locals := 22 }
abbrev cd_Ba_age : Cond := .code y_Ba_age b_Ba_age 3 none
def f_Ba_age_2 : Nat → Nat → Int32 → Int32 → jz_M → Option (jz_M)
  | 0, _, _, _, _ => none
  | fu + 1, o0, x1, x2, m =>
    if 42 ≤ x2 then
      some m
    else
      (f_Ba_isAlive o0 x2 m).bind fun v2_ =>
      if v2_ = 0 then
        (f_Ba_has o0 x2 m).bind fun v4_ =>
        if v4_ = 0 then
          jz_n (x2 + 1) fun x6_ =>
          f_Ba_age_2 fu o0 x1 x6_ m
        else
          (jz_ix 42 x2).bind fun j7_ =>
          (jz_ix 42 x2).bind fun j8_ =>
          jz_n (jz_up m (o0 + 4) j8_ ((m (o0 + 4) j7_) + 1)) fun m9_ =>
          (jz_ix 42 x2).bind fun j10_ =>
          if (m9_ (o0 + 4) j10_) < 3 then
            jz_n (x2 + 1) fun x12_ =>
            f_Ba_age_2 fu o0 x1 x12_ m9_
          else
            (f_Ba_remove o0 x2 m9_).bind fun v13_ =>
            jz_n (x2 + 1) fun x14_ =>
            f_Ba_age_2 fu o0 x1 x14_ v13_
      else
        (jz_ix 42 x2).bind fun j15_ =>
        (jz_ix 42 x2).bind fun j16_ =>
        jz_n (jz_up m (o0 + 3) j16_ ((m (o0 + 3) j15_) - 1)) fun m17_ =>
        (f_Ba_isAlive o0 x2 m17_).bind fun v18_ =>
        if ¬ v18_ = 0 then
          jz_n (x2 + 1) fun x20_ =>
          f_Ba_age_2 fu o0 x1 x20_ m17_
        else
          (f_Ba_end o0 x2 x1 m17_).bind fun v21_ =>
          jz_n (x2 + 1) fun x22_ =>
          f_Ba_age_2 fu o0 x1 x22_ v21_
set_option maxHeartbeats 4000000 in
set_option maxRecDepth 100000 in
theorem t_Ba_age_2 {Z : cz_Z} {X : jz_X} {r : jz_M} (C : jz_C X 3 b_Ba_age R_Ba none rm_Ba_age (cz_G Z)) : ∀ (fu : Nat) (o0 : Nat) (x1 : Int32) (x2 : Int32) (m : jz_M) , kz_Ba o0 → f_Ba_age_2 fu o0 x1 x2 m = some r → jz_J X 3 (cz_G Z) (jz_q X (cz_G Z) none r) m [(0, .ref (gz_ad (cz_G Z) o0)), (1, .int x1), (2, .int x2)] 2 [] := by
  intro fu
  induction fu with
  | zero => intro o0 x1 x2 m k0 h; cases h
  | succ fu ih =>
    intro o0 x1 x2 m k0 h
    rw [f_Ba_age_2] at h
    refine jr_iload_n 2 C d_Ba_age_2 rfl ?_
    refine jr_bipush 3 42 C d_Ba_age_3 (by decide) ?_
    refine jr_icmp_ge 5 82 C d_Ba_age_5 (by decide) (fun c1_ => ?_) (fun c1_ => ?_)
    · have h := jz_t c1_ h
      obtain rfl := Option.some.inj h
      exact jr_vret 82 C d_Ba_age_82 rfl
    · have h := jz_f c1_ h
      refine jr_aload_n 8 C d_Ba_age_8 rfl ?_
      refine jr_iload_n 9 C d_Ba_age_9 rfl ?_
      obtain ⟨v2_, ev2_, h⟩ := jz_b h
      refine jr_callV 10 [.int x2] C d_Ba_age_10 (c_Ba_isAlive (xz_l X) C.2.2.2.2.2.2.1 k0 ev2_) sz_Ba_isAlive tz_Ba_isAlive lk_Ba_51 (oz_Ba k0) rfl (by decide) rfl rfl (Nat.le_of_ble_eq_true rfl) rfl ?_
      refine jr_if_eq 13 43 C d_Ba_age_13 (by decide) (fun c3_ => ?_) (fun c3_ => ?_)
      · have h := jz_t c3_ h
        refine jr_aload_n 43 C d_Ba_age_43 rfl ?_
        refine jr_iload_n 44 C d_Ba_age_44 rfl ?_
        obtain ⟨v4_, ev4_, h⟩ := jz_b h
        refine jr_callV 45 [.int x2] C d_Ba_age_45 (c_Ba_has (xz_l X) C.2.2.2.2.2.2.1 k0 ev4_) sz_Ba_has tz_Ba_has lk_Ba_43 (oz_Ba k0) rfl (by decide) rfl rfl (Nat.le_of_ble_eq_true rfl) rfl ?_
        refine jr_if_eq 48 76 C d_Ba_age_48 (by decide) (fun c5_ => ?_) (fun c5_ => ?_)
        · have h := jz_t c5_ h
          obtain ⟨x6_, ex6_, h⟩ := jz_ne h
          refine jr_iinc 76 [(0, .ref (gz_ad (cz_G Z) o0)), (1, .int x1), (2, .int x6_)] C d_Ba_age_76 rfl (by decide) rfl (by rw [ex6_]; rfl) rfl ?_
          refine jr_goto 79 2 C d_Ba_age_79 (by decide) ?_
          refine jr_sub [0, 1, 2] rfl ?_
          exact ih o0 x1 x6_ m k0 h
        · have h := jz_f c5_ h
          refine jr_aload_n 51 C d_Ba_age_51 rfl ?_
          refine gf_Ba_21 52 C d_Ba_age_52 k0 ?_
          refine jr_iload_n 55 C d_Ba_age_55 rfl ?_
          refine jr_dup2 56 C d_Ba_age_56 rfl rfl ?_
          obtain ⟨j7_, ej7_, h⟩ := jz_b h
          refine jr_iald 57 C d_Ba_age_57 (zk_Ba_ticksAtRest k0) ej7_ ?_
          refine jr_iconst 58 1 C d_Ba_age_58 (by decide) ?_
          refine jr_iadd 59 C d_Ba_age_59 ?_
          obtain ⟨j8_, ej8_, h⟩ := jz_b h
          obtain ⟨m9_, em9_, h⟩ := jz_ne h
          refine jr_iast 60 C d_Ba_age_60 (zk_Ba_ticksAtRest k0) ej8_ ?_
          refine jr_mem em9_ ?_
          refine jr_aload_n 61 C d_Ba_age_61 rfl ?_
          refine gf_Ba_21 62 C d_Ba_age_62 k0 ?_
          refine jr_iload_n 65 C d_Ba_age_65 rfl ?_
          obtain ⟨j10_, ej10_, h⟩ := jz_b h
          refine jr_iald 66 C d_Ba_age_66 (zk_Ba_ticksAtRest k0) ej10_ ?_
          refine jr_iconst 67 3 C d_Ba_age_67 (by decide) ?_
          refine jr_icmp_lt 68 76 C d_Ba_age_68 (by decide) (fun c11_ => ?_) (fun c11_ => ?_)
          · have h := jz_t c11_ h
            obtain ⟨x12_, ex12_, h⟩ := jz_ne h
            refine jr_iinc 76 [(0, .ref (gz_ad (cz_G Z) o0)), (1, .int x1), (2, .int x12_)] C d_Ba_age_76 rfl (by decide) rfl (by rw [ex12_]; rfl) rfl ?_
            refine jr_goto 79 2 C d_Ba_age_79 (by decide) ?_
            refine jr_sub [0, 1, 2] rfl ?_
            exact ih o0 x1 x12_ m9_ k0 h
          · have h := jz_f c11_ h
            refine jr_aload_n 71 C d_Ba_age_71 rfl ?_
            refine jr_iload_n 72 C d_Ba_age_72 rfl ?_
            obtain ⟨v13_, ev13_, h⟩ := jz_b h
            refine jr_callV 73 [.int x2] C d_Ba_age_73 (c_Ba_remove (xz_l X) C.2.2.2.2.2.2.1 k0 ev13_) sz_Ba_remove tz_Ba_remove lk_Ba_96 (oz_Ba k0) rfl (by decide) rfl rfl (Nat.le_of_ble_eq_true rfl) rfl ?_
            obtain ⟨x14_, ex14_, h⟩ := jz_ne h
            refine jr_iinc 76 [(0, .ref (gz_ad (cz_G Z) o0)), (1, .int x1), (2, .int x14_)] C d_Ba_age_76 rfl (by decide) rfl (by rw [ex14_]; rfl) rfl ?_
            refine jr_goto 79 2 C d_Ba_age_79 (by decide) ?_
            refine jr_sub [0, 1, 2] rfl ?_
            exact ih o0 x1 x14_ v13_ k0 h
      · have h := jz_f c3_ h
        refine jr_aload_n 16 C d_Ba_age_16 rfl ?_
        refine gf_Ba_18 17 C d_Ba_age_17 k0 ?_
        refine jr_iload_n 20 C d_Ba_age_20 rfl ?_
        refine jr_dup2 21 C d_Ba_age_21 rfl rfl ?_
        obtain ⟨j15_, ej15_, h⟩ := jz_b h
        refine jr_iald 22 C d_Ba_age_22 (zk_Ba_lives k0) ej15_ ?_
        refine jr_iconst 23 1 C d_Ba_age_23 (by decide) ?_
        refine jr_isub 24 C d_Ba_age_24 ?_
        obtain ⟨j16_, ej16_, h⟩ := jz_b h
        obtain ⟨m17_, em17_, h⟩ := jz_ne h
        refine jr_iast 25 C d_Ba_age_25 (zk_Ba_lives k0) ej16_ ?_
        refine jr_mem em17_ ?_
        refine jr_aload_n 26 C d_Ba_age_26 rfl ?_
        refine jr_iload_n 27 C d_Ba_age_27 rfl ?_
        obtain ⟨v18_, ev18_, h⟩ := jz_b h
        refine jr_callV 28 [.int x2] C d_Ba_age_28 (c_Ba_isAlive (xz_l X) C.2.2.2.2.2.2.1 k0 ev18_) sz_Ba_isAlive tz_Ba_isAlive lk_Ba_51 (oz_Ba k0) rfl (by decide) rfl rfl (Nat.le_of_ble_eq_true rfl) rfl ?_
        refine jr_if_ne 31 76 C d_Ba_age_31 (by decide) (fun c19_ => ?_) (fun c19_ => ?_)
        · have h := jz_t c19_ h
          obtain ⟨x20_, ex20_, h⟩ := jz_ne h
          refine jr_iinc 76 [(0, .ref (gz_ad (cz_G Z) o0)), (1, .int x1), (2, .int x20_)] C d_Ba_age_76 rfl (by decide) rfl (by rw [ex20_]; rfl) rfl ?_
          refine jr_goto 79 2 C d_Ba_age_79 (by decide) ?_
          refine jr_sub [0, 1, 2] rfl ?_
          exact ih o0 x1 x20_ m17_ k0 h
        · have h := jz_f c19_ h
          refine jr_aload_n 34 C d_Ba_age_34 rfl ?_
          refine jr_iload_n 35 C d_Ba_age_35 rfl ?_
          refine jr_iload_n 36 C d_Ba_age_36 rfl ?_
          obtain ⟨v21_, ev21_, h⟩ := jz_b h
          refine jr_callV 37 [.int x2, .int x1] C d_Ba_age_37 (c_Ba_end (xz_l X) C.2.2.2.2.2.2.1 k0 ev21_) sz_Ba_end tz_Ba_end lk_Ba_92 (oz_Ba k0) rfl (by decide) rfl rfl (Nat.le_of_ble_eq_true rfl) rfl ?_
          refine jr_goto 40 76 C d_Ba_age_40 (by decide) ?_
          obtain ⟨x22_, ex22_, h⟩ := jz_ne h
          refine jr_iinc 76 [(0, .ref (gz_ad (cz_G Z) o0)), (1, .int x1), (2, .int x22_)] C d_Ba_age_76 rfl (by decide) rfl (by rw [ex22_]; rfl) rfl ?_
          refine jr_goto 79 2 C d_Ba_age_79 (by decide) ?_
          refine jr_sub [0, 1, 2] rfl ?_
          exact ih o0 x1 x22_ v21_ k0 h
def f_Ba_age (o0 : Nat) (a1 : Int32) (m : jz_M) : Option (jz_M) :=
  f_Ba_age_2 1000 o0 a1 0 m
set_option maxHeartbeats 4000000 in
set_option maxRecDepth 100000 in
theorem c_Ba_age {Z : cz_Z} (l : Launch) (hI : jz_I (cz_G Z)) {o0 : Nat} {a1 : Int32} {m : jz_M} {r : jz_M} (ko0 : kz_Ba o0) (h : f_Ba_age o0 a1 m = some r) : jz_m l y_Ba_age cd_Ba_age rm_Ba_age (cz_G Z) [.ref (gz_ad (cz_G Z) o0), .int a1] m none r := by
  refine jz_met (own := R_Ba) (by decide) rfl hI (Nat.le_of_ble_eq_true rfl) (fun X hX C => ?_)
  subst hX
  show jz_J X 3 (cz_G Z) _ m [(0, .ref (gz_ad (cz_G Z) o0)), (1, .int a1)] 0 []
  unfold f_Ba_age at h
  refine jr_iconst 0 0 C d_Ba_age_0 (by decide) ?_
  refine jr_istore_n 1 [(0, .ref (gz_ad (cz_G Z) o0)), (1, .int a1), (2, .int 0)] C d_Ba_age_1 rfl (by decide) rfl ?_
  refine jr_sub [0, 1, 2] rfl ?_
  exact t_Ba_age_2 C 1000 o0 a1 0 m ko0 h
end
section
abbrev rm_AR_tick : Room := { frames := 2, cells := 0, slots := 0, locals := 45 }
abbrev cd_AR_tick : Cond := .code y_AR_tick b_AR_tick 3 none
def f_AR_tick_31 (k24 : Int32 → jz_M → Option (jz_M)) : Nat → Int32 → Int32 → jz_M → Option (jz_M)
  | 0, _, _, _ => none
  | fu + 1, x1, x2, m =>
    if 6 ≤ x2 then
      jz_n (x1 + 1) fun x2_ =>
      k24 x2_ m
    else
      (f_AR_baseOf x2 x1 m).bind fun v3_ =>
      (f_Wi_circuitsOf x2 m).bind fun v4_ =>
      (f_Ba_age v3_ v4_ m).bind fun v5_ =>
      jz_n (x2 + 1) fun x6_ =>
      f_AR_tick_31 k24 fu x1 x6_ v5_
set_option maxHeartbeats 4000000 in
set_option maxRecDepth 100000 in
theorem t_AR_tick_31 {Z : cz_Z} {X : jz_X} {r : jz_M} (C : jz_C X 3 b_AR_tick R_AR none rm_AR_tick (cz_G Z)) (k24 : Int32 → jz_M → Option (jz_M)) (hk24 : ∀ (x1 : Int32) (m : jz_M), k24 x1 m = some r → jz_J X 3 (cz_G Z) (jz_q X (cz_G Z) none r) m [(0, .ref (gz_ad (cz_G Z) 0)), (1, .int x1)] 24 []) : ∀ (fu : Nat) (x1 : Int32) (x2 : Int32) (m : jz_M) , f_AR_tick_31 k24 fu x1 x2 m = some r → jz_J X 3 (cz_G Z) (jz_q X (cz_G Z) none r) m [(0, .ref (gz_ad (cz_G Z) 0)), (1, .int x1), (2, .int x2)] 31 [] := by
  intro fu
  induction fu with
  | zero => intro x1 x2 m h; cases h
  | succ fu ih =>
    intro x1 x2 m h
    rw [f_AR_tick_31] at h
    refine jr_iload_n 31 C d_AR_tick_31 rfl ?_
    refine jr_bipush 32 6 C d_AR_tick_32 (by decide) ?_
    refine jr_icmp_ge 34 60 C d_AR_tick_34 (by decide) (fun c1_ => ?_) (fun c1_ => ?_)
    · have h := jz_t c1_ h
      obtain ⟨x2_, ex2_, h⟩ := jz_ne h
      refine jr_iinc 60 [(0, .ref (gz_ad (cz_G Z) 0)), (1, .int x2_), (2, .int x2)] C d_AR_tick_60 rfl (by decide) rfl (by rw [ex2_]; rfl) rfl ?_
      refine jr_goto 63 24 C d_AR_tick_63 (by decide) ?_
      refine jr_sub [0, 1] rfl ?_
      exact hk24 x2_ m  h
    · have h := jz_f c1_ h
      refine jr_aload_n 37 C d_AR_tick_37 rfl ?_
      refine jr_iload_n 38 C d_AR_tick_38 rfl ?_
      refine jr_iload_n 39 C d_AR_tick_39 rfl ?_
      obtain ⟨v3_, ev3_, h⟩ := jz_b h
      refine jr_callV 40 [.int x2, .int x1] C d_AR_tick_40 (c_AR_baseOf (xz_l X) C.2.2.2.2.2.2.1  ev3_) sz_AR_baseOf tz_AR_baseOf lk_AR_87 oz_AR rfl (by decide) rfl rfl (Nat.le_of_ble_eq_true rfl) rfl ?_
      refine jr_aload_n 43 C d_AR_tick_43 rfl ?_
      refine gf_AR_19 44 C d_AR_tick_44 ?_
      refine jr_iload_n 47 C d_AR_tick_47 rfl ?_
      obtain ⟨v4_, ev4_, h⟩ := jz_b h
      refine jr_callVN 48 [.int x2] C d_AR_tick_48 (c_Wi_circuitsOf (xz_l X) C.2.2.2.2.2.2.1  ev4_) sz_Wi_circuitsOf tz_Wi_circuitsOf lk_AR_55 oz_Wi rfl (by decide) rfl rfl (Nat.le_of_ble_eq_true rfl) rfl ?_
      obtain ⟨v5_, ev5_, h⟩ := jz_b h
      refine jr_callVN 51 [.int v4_] C d_AR_tick_51 (c_Ba_age (xz_l X) C.2.2.2.2.2.2.1 (kr_AR_baseOf ev3_) ev5_) sz_Ba_age tz_Ba_age lk_AR_144 (oz_Ba (kr_AR_baseOf ev3_)) rfl (by decide) rfl rfl (Nat.le_of_ble_eq_true rfl) rfl ?_
      obtain ⟨x6_, ex6_, h⟩ := jz_ne h
      refine jr_iinc 54 [(0, .ref (gz_ad (cz_G Z) 0)), (1, .int x1), (2, .int x6_)] C d_AR_tick_54 rfl (by decide) rfl (by rw [ex6_]; rfl) rfl ?_
      refine jr_goto 57 31 C d_AR_tick_57 (by decide) ?_
      refine jr_sub [0, 1, 2] rfl ?_
      exact ih x1 x6_ v5_  h
def f_AR_tick_24 : Nat → Int32 → jz_M → Option (jz_M)
  | 0, _, _ => none
  | fu + 1, x1, m =>
    if 2 < x1 then
      some m
    else
      f_AR_tick_31 (f_AR_tick_24 fu) 1000 x1 0 m
set_option maxHeartbeats 4000000 in
set_option maxRecDepth 100000 in
theorem t_AR_tick_24 {Z : cz_Z} {X : jz_X} {r : jz_M} (C : jz_C X 3 b_AR_tick R_AR none rm_AR_tick (cz_G Z)) : ∀ (fu : Nat) (x1 : Int32) (m : jz_M) , f_AR_tick_24 fu x1 m = some r → jz_J X 3 (cz_G Z) (jz_q X (cz_G Z) none r) m [(0, .ref (gz_ad (cz_G Z) 0)), (1, .int x1)] 24 [] := by
  intro fu
  induction fu with
  | zero => intro x1 m h; cases h
  | succ fu ih =>
    intro x1 m h
    rw [f_AR_tick_24] at h
    refine jr_iload_n 24 C d_AR_tick_24 rfl ?_
    refine jr_iconst 25 2 C d_AR_tick_25 (by decide) ?_
    refine jr_icmp_gt 26 66 C d_AR_tick_26 (by decide) (fun c1_ => ?_) (fun c1_ => ?_)
    · have h := jz_t c1_ h
      obtain rfl := Option.some.inj h
      exact jr_vret 66 C d_AR_tick_66 rfl
    · have h := jz_f c1_ h
      refine jr_iconst 29 0 C d_AR_tick_29 (by decide) ?_
      refine jr_istore_n 30 [(0, .ref (gz_ad (cz_G Z) 0)), (1, .int x1), (2, .int 0)] C d_AR_tick_30 rfl (by decide) rfl ?_
      refine jr_sub [0, 1, 2] rfl ?_
      exact t_AR_tick_31 C (f_AR_tick_24 fu) ih 1000 x1 0 m h
def f_AR_tick_2 : Nat → Int32 → jz_M → Option (jz_M)
  | 0, _, _ => none
  | fu + 1, x1, m =>
    if 2 ≤ x1 then
      f_AR_tick_24 1000 1 m
    else
      (jz_ix 2 x1).bind fun j2_ =>
      (f_He_age (7 + 3 * j2_) m).bind fun v3_ =>
      jz_n (x1 + 1) fun x4_ =>
      f_AR_tick_2 fu x4_ v3_
set_option maxHeartbeats 4000000 in
set_option maxRecDepth 100000 in
theorem t_AR_tick_2 {Z : cz_Z} {X : jz_X} {r : jz_M} (C : jz_C X 3 b_AR_tick R_AR none rm_AR_tick (cz_G Z)) : ∀ (fu : Nat) (x1 : Int32) (m : jz_M) , f_AR_tick_2 fu x1 m = some r → jz_J X 3 (cz_G Z) (jz_q X (cz_G Z) none r) m [(0, .ref (gz_ad (cz_G Z) 0)), (1, .int x1)] 2 [] := by
  intro fu
  induction fu with
  | zero => intro x1 m h; cases h
  | succ fu ih =>
    intro x1 m h
    rw [f_AR_tick_2] at h
    refine jr_iload_n 2 C d_AR_tick_2 rfl ?_
    refine jr_iconst 3 2 C d_AR_tick_3 (by decide) ?_
    refine jr_icmp_ge 4 22 C d_AR_tick_4 (by decide) (fun c1_ => ?_) (fun c1_ => ?_)
    · have h := jz_t c1_ h
      refine jr_iconst 22 1 C d_AR_tick_22 (by decide) ?_
      refine jr_istore_n 23 [(0, .ref (gz_ad (cz_G Z) 0)), (1, .int 1)] C d_AR_tick_23 rfl (by decide) rfl ?_
      refine jr_sub [0, 1] rfl ?_
      exact t_AR_tick_24 C  1000 1 m h
    · have h := jz_f c1_ h
      refine jr_aload_n 7 C d_AR_tick_7 rfl ?_
      refine gf_AR_25 8 C d_AR_tick_8 ?_
      refine jr_iload_n 11 C d_AR_tick_11 rfl ?_
      obtain ⟨j2_, ej2_, h⟩ := jz_b h
      refine jr_aald 12 C d_AR_tick_12 zk_AR_hearings ej2_ ?_
      obtain ⟨v3_, ev3_, h⟩ := jz_b h
      refine jr_callVN 13 [] C d_AR_tick_13 (c_He_age (xz_l X) C.2.2.2.2.2.2.1 (ke_He ej2_) ev3_) sz_He_age tz_He_age lk_AR_141 (oz_He (ke_He ej2_)) rfl (by decide) rfl rfl (Nat.le_of_ble_eq_true rfl) rfl ?_
      obtain ⟨x4_, ex4_, h⟩ := jz_ne h
      refine jr_iinc 16 [(0, .ref (gz_ad (cz_G Z) 0)), (1, .int x4_)] C d_AR_tick_16 rfl (by decide) rfl (by rw [ex4_]; rfl) rfl ?_
      refine jr_goto 19 2 C d_AR_tick_19 (by decide) ?_
      refine jr_sub [0, 1] rfl ?_
      exact ih x4_ v3_  h
def f_AR_tick (m : jz_M) : Option (jz_M) :=
  f_AR_tick_2 1000 0 m
set_option maxHeartbeats 4000000 in
set_option maxRecDepth 100000 in
theorem c_AR_tick {Z : cz_Z} (l : Launch) (hI : jz_I (cz_G Z)) {m : jz_M} {r : jz_M} (h : f_AR_tick m = some r) : jz_m l y_AR_tick cd_AR_tick rm_AR_tick (cz_G Z) [.ref (gz_ad (cz_G Z) 0)] m none r := by
  refine jz_met (own := R_AR) (by decide) rfl hI (Nat.le_of_ble_eq_true rfl) (fun X hX C => ?_)
  subst hX
  show jz_J X 3 (cz_G Z) _ m [(0, .ref (gz_ad (cz_G Z) 0))] 0 []
  unfold f_AR_tick at h
  refine jr_iconst 0 0 C d_AR_tick_0 (by decide) ?_
  refine jr_istore_n 1 [(0, .ref (gz_ad (cz_G Z) 0)), (1, .int 0)] C d_AR_tick_1 rfl (by decide) rfl ?_
  refine jr_sub [0, 1] rfl ?_
  exact t_AR_tick_2 C 1000 0 m h
abbrev rm_AR_neighbour : Room := { frames := 1, cells := 0, slots := 0, locals := 24 }
abbrev cd_AR_neighbour : Cond := .code y_AR_neighbour b_AR_neighbour 5 (some .boolean)
def f_AR_neighbour (a1 : Int32) (a2 : Int32) (a3 : Int32) (a4 : Int32) (m : jz_M) : Option (Int32) :=
  (f_AR_isRouter a1 m).bind fun v1_ =>
  if v1_ = 0 then
    some 0
  else
    (f_AR_isCircuit a2 m).bind fun v3_ =>
    if v3_ = 0 then
      some 0
    else
      (f_AR_isLevel a3 m).bind fun v5_ =>
      if v5_ = 0 then
        some 0
      else
        (f_AR_isRouter a4 m).bind fun v7_ =>
        if v7_ = 0 then
          some 0
        else
          (f_AR_hearingAt a3 m).bind fun v9_ =>
          (f_He_isMutual v9_ a1 a2 a4 m).bind fun v10_ =>
          if v10_ = 0 then
            some 0
          else
            some 1
set_option maxHeartbeats 4000000 in
set_option maxRecDepth 100000 in
theorem c_AR_neighbour {Z : cz_Z} (l : Launch) (hI : jz_I (cz_G Z)) {a1 : Int32} {a2 : Int32} {a3 : Int32} {a4 : Int32} {m : jz_M} {r : Int32} (h : f_AR_neighbour a1 a2 a3 a4 m = some r) : jz_m l y_AR_neighbour cd_AR_neighbour rm_AR_neighbour (cz_G Z) [.ref (gz_ad (cz_G Z) 0), .int a1, .int a2, .int a3, .int a4] m (some (.int r)) m := by
  refine jz_met (own := R_AR) (by decide) rfl hI (Nat.le_of_ble_eq_true rfl) (fun X hX C => ?_)
  subst hX
  show jz_J X 5 (cz_G Z) _ m [(0, .ref (gz_ad (cz_G Z) 0)), (1, .int a1), (2, .int a2), (3, .int a3), (4, .int a4)] 0 []
  unfold f_AR_neighbour at h
  refine jr_iload_n 0 C d_AR_neighbour_0 rfl ?_
  obtain ⟨v1_, ev1_, h⟩ := jz_b h
  refine jr_callS 1 [.int a1] C d_AR_neighbour_1 (c_AR_isRouter (xz_l X) C.2.2.2.2.2.2.1 ev1_) sz_AR_isRouter tz_AR_isRouter lk_AR_51 (by decide) rfl rfl (Nat.le_of_ble_eq_true rfl) rfl ?_
  refine jr_if_eq 4 48 C d_AR_neighbour_4 (by decide) (fun c2_ => ?_) (fun c2_ => ?_)
  · have h := jz_t c2_ h
    refine jr_iconst 48 0 C d_AR_neighbour_48 (by decide) ?_
    obtain rfl := Option.some.inj h
    exact jr_zret 49 (v := 0) C d_AR_neighbour_49 rfl nb_0
  · have h := jz_f c2_ h
    refine jr_iload_n 7 C d_AR_neighbour_7 rfl ?_
    obtain ⟨v3_, ev3_, h⟩ := jz_b h
    refine jr_callS 8 [.int a2] C d_AR_neighbour_8 (c_AR_isCircuit (xz_l X) C.2.2.2.2.2.2.1  ev3_) sz_AR_isCircuit tz_AR_isCircuit lk_AR_59 (by decide) rfl rfl (Nat.le_of_ble_eq_true rfl) rfl ?_
    refine jr_if_eq 11 48 C d_AR_neighbour_11 (by decide) (fun c4_ => ?_) (fun c4_ => ?_)
    · have h := jz_t c4_ h
      refine jr_iconst 48 0 C d_AR_neighbour_48 (by decide) ?_
      obtain rfl := Option.some.inj h
      exact jr_zret 49 (v := 0) C d_AR_neighbour_49 rfl nb_0
    · have h := jz_f c4_ h
      refine jr_iload_n 14 C d_AR_neighbour_14 rfl ?_
      obtain ⟨v5_, ev5_, h⟩ := jz_b h
      refine jr_callS 15 [.int a3] C d_AR_neighbour_15 (c_AR_isLevel (xz_l X) C.2.2.2.2.2.2.1  ev5_) sz_AR_isLevel tz_AR_isLevel lk_AR_147 (by decide) rfl rfl (Nat.le_of_ble_eq_true rfl) rfl ?_
      refine jr_if_eq 18 48 C d_AR_neighbour_18 (by decide) (fun c6_ => ?_) (fun c6_ => ?_)
      · have h := jz_t c6_ h
        refine jr_iconst 48 0 C d_AR_neighbour_48 (by decide) ?_
        obtain rfl := Option.some.inj h
        exact jr_zret 49 (v := 0) C d_AR_neighbour_49 rfl nb_0
      · have h := jz_f c6_ h
        refine jr_iload 21 C d_AR_neighbour_21 rfl ?_
        obtain ⟨v7_, ev7_, h⟩ := jz_b h
        refine jr_callS 23 [.int a4] C d_AR_neighbour_23 (c_AR_isRouter (xz_l X) C.2.2.2.2.2.2.1  ev7_) sz_AR_isRouter tz_AR_isRouter lk_AR_51 (by decide) rfl rfl (Nat.le_of_ble_eq_true rfl) rfl ?_
        refine jr_if_eq 26 48 C d_AR_neighbour_26 (by decide) (fun c8_ => ?_) (fun c8_ => ?_)
        · have h := jz_t c8_ h
          refine jr_iconst 48 0 C d_AR_neighbour_48 (by decide) ?_
          obtain rfl := Option.some.inj h
          exact jr_zret 49 (v := 0) C d_AR_neighbour_49 rfl nb_0
        · have h := jz_f c8_ h
          refine jr_aload_n 29 C d_AR_neighbour_29 rfl ?_
          refine jr_iload_n 30 C d_AR_neighbour_30 rfl ?_
          obtain ⟨v9_, ev9_, h⟩ := jz_b h
          refine jr_callV 31 [.int a3] C d_AR_neighbour_31 (c_AR_hearingAt (xz_l X) C.2.2.2.2.2.2.1  ev9_) sz_AR_hearingAt tz_AR_hearingAt lk_AR_150 oz_AR rfl (by decide) rfl rfl (Nat.le_of_ble_eq_true rfl) rfl ?_
          refine jr_iload_n 34 C d_AR_neighbour_34 rfl ?_
          refine jr_iload_n 35 C d_AR_neighbour_35 rfl ?_
          refine jr_iload 36 C d_AR_neighbour_36 rfl ?_
          obtain ⟨v10_, ev10_, h⟩ := jz_b h
          refine jr_callVN 38 [.int a1, .int a2, .int a4] C d_AR_neighbour_38 (c_He_isMutual (xz_l X) C.2.2.2.2.2.2.1 (kr_AR_hearingAt ev9_) ev10_) sz_He_isMutual tz_He_isMutual lk_AR_154 (oz_He (kr_AR_hearingAt ev9_)) rfl (by decide) rfl rfl (Nat.le_of_ble_eq_true rfl) rfl ?_
          refine jr_if_eq 41 48 C d_AR_neighbour_41 (by decide) (fun c11_ => ?_) (fun c11_ => ?_)
          · have h := jz_t c11_ h
            refine jr_iconst 48 0 C d_AR_neighbour_48 (by decide) ?_
            obtain rfl := Option.some.inj h
            exact jr_zret 49 (v := 0) C d_AR_neighbour_49 rfl nb_0
          · have h := jz_f c11_ h
            refine jr_iconst 44 1 C d_AR_neighbour_44 (by decide) ?_
            refine jr_goto 45 49 C d_AR_neighbour_45 (by decide) ?_
            obtain rfl := Option.some.inj h
            exact jr_zret 49 (v := 1) C d_AR_neighbour_49 rfl nb_1
abbrev rm_AR_speaker : Room := { frames := 2, cells := 0, slots := 0, locals := 50 }
abbrev cd_AR_speaker : Cond := .code y_AR_speaker b_AR_speaker 4 (some .int)
def f_AR_speaker (a1 : Int32) (a2 : Int32) (a3 : Int32) (m : jz_M) : Option (Int32) :=
  (f_AR_isRouter a1 m).bind fun v1_ =>
  if v1_ = 0 then
    some (-1)
  else
    (f_AR_isCircuit a2 m).bind fun v3_ =>
    if v3_ = 0 then
      some (-1)
    else
      (f_AR_hasLevel a1 a3 m).bind fun v5_ =>
      if v5_ = 0 then
        some (-1)
      else
        (f_Wi_isAttached a1 a2 m).bind fun v7_ =>
        if ¬ v7_ = 0 then
          (f_AR_speakerSeenBy a1 a2 a3 m).bind fun v9_ =>
          some v9_
        else
          some (-1)
set_option maxHeartbeats 4000000 in
set_option maxRecDepth 100000 in
theorem c_AR_speaker {Z : cz_Z} (l : Launch) (hI : jz_I (cz_G Z)) {a1 : Int32} {a2 : Int32} {a3 : Int32} {m : jz_M} {r : Int32} (h : f_AR_speaker a1 a2 a3 m = some r) : jz_m l y_AR_speaker cd_AR_speaker rm_AR_speaker (cz_G Z) [.ref (gz_ad (cz_G Z) 0), .int a1, .int a2, .int a3] m (some (.int r)) m := by
  refine jz_met (own := R_AR) (by decide) rfl hI (Nat.le_of_ble_eq_true rfl) (fun X hX C => ?_)
  subst hX
  show jz_J X 4 (cz_G Z) _ m [(0, .ref (gz_ad (cz_G Z) 0)), (1, .int a1), (2, .int a2), (3, .int a3)] 0 []
  unfold f_AR_speaker at h
  refine jr_iload_n 0 C d_AR_speaker_0 rfl ?_
  obtain ⟨v1_, ev1_, h⟩ := jz_b h
  refine jr_callS 1 [.int a1] C d_AR_speaker_1 (c_AR_isRouter (xz_l X) C.2.2.2.2.2.2.1 ev1_) sz_AR_isRouter tz_AR_isRouter lk_AR_51 (by decide) rfl rfl (Nat.le_of_ble_eq_true rfl) rfl ?_
  refine jr_if_eq 4 35 C d_AR_speaker_4 (by decide) (fun c2_ => ?_) (fun c2_ => ?_)
  · have h := jz_t c2_ h
    refine jr_iconst 35 (-1) C d_AR_speaker_35 (by decide) ?_
    obtain rfl := Option.some.inj h
    exact jr_iret 36 (v := (-1)) C d_AR_speaker_36 rfl
  · have h := jz_f c2_ h
    refine jr_iload_n 7 C d_AR_speaker_7 rfl ?_
    obtain ⟨v3_, ev3_, h⟩ := jz_b h
    refine jr_callS 8 [.int a2] C d_AR_speaker_8 (c_AR_isCircuit (xz_l X) C.2.2.2.2.2.2.1  ev3_) sz_AR_isCircuit tz_AR_isCircuit lk_AR_59 (by decide) rfl rfl (Nat.le_of_ble_eq_true rfl) rfl ?_
    refine jr_if_eq 11 35 C d_AR_speaker_11 (by decide) (fun c4_ => ?_) (fun c4_ => ?_)
    · have h := jz_t c4_ h
      refine jr_iconst 35 (-1) C d_AR_speaker_35 (by decide) ?_
      obtain rfl := Option.some.inj h
      exact jr_iret 36 (v := (-1)) C d_AR_speaker_36 rfl
    · have h := jz_f c4_ h
      refine jr_aload_n 14 C d_AR_speaker_14 rfl ?_
      refine jr_iload_n 15 C d_AR_speaker_15 rfl ?_
      refine jr_iload_n 16 C d_AR_speaker_16 rfl ?_
      obtain ⟨v5_, ev5_, h⟩ := jz_b h
      refine jr_callV 17 [.int a1, .int a3] C d_AR_speaker_17 (c_AR_hasLevel (xz_l X) C.2.2.2.2.2.2.1  ev5_) sz_AR_hasLevel tz_AR_hasLevel lk_AR_134 oz_AR rfl (by decide) rfl rfl (Nat.le_of_ble_eq_true rfl) rfl ?_
      refine jr_if_eq 20 35 C d_AR_speaker_20 (by decide) (fun c6_ => ?_) (fun c6_ => ?_)
      · have h := jz_t c6_ h
        refine jr_iconst 35 (-1) C d_AR_speaker_35 (by decide) ?_
        obtain rfl := Option.some.inj h
        exact jr_iret 36 (v := (-1)) C d_AR_speaker_36 rfl
      · have h := jz_f c6_ h
        refine jr_aload_n 23 C d_AR_speaker_23 rfl ?_
        refine gf_AR_19 24 C d_AR_speaker_24 ?_
        refine jr_iload_n 27 C d_AR_speaker_27 rfl ?_
        refine jr_iload_n 28 C d_AR_speaker_28 rfl ?_
        obtain ⟨v7_, ev7_, h⟩ := jz_b h
        refine jr_callVN 29 [.int a1, .int a2] C d_AR_speaker_29 (c_Wi_isAttached (xz_l X) C.2.2.2.2.2.2.1  ev7_) sz_Wi_isAttached tz_Wi_isAttached lk_AR_62 oz_Wi rfl (by decide) rfl rfl (Nat.le_of_ble_eq_true rfl) rfl ?_
        refine jr_if_ne 32 37 C d_AR_speaker_32 (by decide) (fun c8_ => ?_) (fun c8_ => ?_)
        · have h := jz_t c8_ h
          refine jr_aload_n 37 C d_AR_speaker_37 rfl ?_
          refine jr_iload_n 38 C d_AR_speaker_38 rfl ?_
          refine jr_iload_n 39 C d_AR_speaker_39 rfl ?_
          refine jr_iload_n 40 C d_AR_speaker_40 rfl ?_
          obtain ⟨v9_, ev9_, h⟩ := jz_b h
          refine jr_callV 41 [.int a1, .int a2, .int a3] C d_AR_speaker_41 (c_AR_speakerSeenBy (xz_l X) C.2.2.2.2.2.2.1  ev9_) sz_AR_speakerSeenBy tz_AR_speakerSeenBy lk_AR_157 oz_AR rfl (by decide) rfl rfl (Nat.le_of_ble_eq_true rfl) rfl ?_
          obtain rfl := Option.some.inj h
          exact jr_iret 44 (v := v9_) C d_AR_speaker_44 rfl
        · have h := jz_f c8_ h
          refine jr_iconst 35 (-1) C d_AR_speaker_35 (by decide) ?_
          obtain rfl := Option.some.inj h
          exact jr_iret 36 (v := (-1)) C d_AR_speaker_36 rfl
abbrev rm_AR_isName : Room := { frames := 0, cells := 0, slots := 0, locals := 0 }
abbrev cd_AR_isName : Cond := .code y_AR_isName b_AR_isName 1 (some .boolean)
def f_AR_isName (a0 : Int32) (m : jz_M) : Option (Int32) :=
  if a0 < 0 then
    some 0
  else
    if 42 ≤ a0 then
      some 0
    else
      some 1
set_option maxHeartbeats 4000000 in
set_option maxRecDepth 100000 in
theorem c_AR_isName {Z : cz_Z} (l : Launch) (hI : jz_I (cz_G Z)) {a0 : Int32} {m : jz_M} {r : Int32} (h : f_AR_isName a0 m = some r) : jz_m l y_AR_isName cd_AR_isName rm_AR_isName (cz_G Z) [.int a0] m (some (.int r)) m := by
  refine jz_met (own := R_AR) (by decide) rfl hI (Nat.le_of_ble_eq_true rfl) (fun X hX C => ?_)
  subst hX
  show jz_J X 1 (cz_G Z) _ m [(0, .int a0)] 0 []
  unfold f_AR_isName at h
  refine jr_iload_n 0 C d_AR_isName_0 rfl ?_
  refine jr_if_lt 1 14 C d_AR_isName_1 (by decide) (fun c1_ => ?_) (fun c1_ => ?_)
  · have h := jz_t c1_ h
    refine jr_iconst 14 0 C d_AR_isName_14 (by decide) ?_
    obtain rfl := Option.some.inj h
    exact jr_zret 15 (v := 0) C d_AR_isName_15 rfl nb_0
  · have h := jz_f c1_ h
    refine jr_iload_n 4 C d_AR_isName_4 rfl ?_
    refine jr_bipush 5 42 C d_AR_isName_5 (by decide) ?_
    refine jr_icmp_ge 7 14 C d_AR_isName_7 (by decide) (fun c2_ => ?_) (fun c2_ => ?_)
    · have h := jz_t c2_ h
      refine jr_iconst 14 0 C d_AR_isName_14 (by decide) ?_
      obtain rfl := Option.some.inj h
      exact jr_zret 15 (v := 0) C d_AR_isName_15 rfl nb_0
    · have h := jz_f c2_ h
      refine jr_iconst 10 1 C d_AR_isName_10 (by decide) ?_
      refine jr_goto 11 15 C d_AR_isName_11 (by decide) ?_
      obtain rfl := Option.some.inj h
      exact jr_zret 15 (v := 1) C d_AR_isName_15 rfl nb_1
abbrev rm_Ba_tell : Room := { frames := 1, cells := 0, slots := 0, locals := 22 }
abbrev cd_Ba_tell : Cond := .code y_Ba_tell b_Ba_tell 3 (some .int)
def f_Ba_tell (o0 : Nat) (a1 : Int32) (a2 : Int32) (m : jz_M) : Option (Int32) :=
  (f_Ba_has o0 a1 m).bind fun v1_ =>
  if ¬ v1_ = 0 then
    if a2 = 0 then
      (jz_ix 42 a1).bind fun j4_ =>
      some (m (o0 + 1) j4_)
    else
      if a2 = 1 then
        (jz_ix 42 a1).bind fun j6_ =>
        some (m (o0 + 3) j6_)
      else
        if a2 = 2 then
          (jz_ix 42 a1).bind fun j8_ =>
          if (m (o0 + 5) j8_) = 0 then
            some 0
          else
            some 1
        else
          if a2 = 3 then
            (jz_ix 42 a1).bind fun j11_ =>
            some (m (o0 + 6) j11_)
          else
            if a2 = 4 then
              (jz_ix 42 a1).bind fun j13_ =>
              some (m (o0 + 7) j13_)
            else
              if a2 ≤ 4 then
                some (-1)
              else
                (jz_ix 42 a1).bind fun j15_ =>
                if (m (o0 + 7) j15_) ≤ (a2 - 5) then
                  some (-1)
                else
                  (f_Ba_linkOf o0 a1 (a2 - 5) m).bind fun v17_ =>
                  some v17_
  else
    some (-1)
set_option maxHeartbeats 4000000 in
set_option maxRecDepth 100000 in
theorem c_Ba_tell {Z : cz_Z} (l : Launch) (hI : jz_I (cz_G Z)) {o0 : Nat} {a1 : Int32} {a2 : Int32} {m : jz_M} {r : Int32} (ko0 : kz_Ba o0) (h : f_Ba_tell o0 a1 a2 m = some r) : jz_m l y_Ba_tell cd_Ba_tell rm_Ba_tell (cz_G Z) [.ref (gz_ad (cz_G Z) o0), .int a1, .int a2] m (some (.int r)) m := by
  refine jz_met (own := R_Ba) (by decide) rfl hI (Nat.le_of_ble_eq_true rfl) (fun X hX C => ?_)
  subst hX
  show jz_J X 3 (cz_G Z) _ m [(0, .ref (gz_ad (cz_G Z) o0)), (1, .int a1), (2, .int a2)] 0 []
  unfold f_Ba_tell at h
  refine jr_aload_n 0 C d_Ba_tell_0 rfl ?_
  refine jr_iload_n 1 C d_Ba_tell_1 rfl ?_
  obtain ⟨v1_, ev1_, h⟩ := jz_b h
  refine jr_callV 2 [.int a1] C d_Ba_tell_2 (c_Ba_has (xz_l X) C.2.2.2.2.2.2.1 ko0 ev1_) sz_Ba_has tz_Ba_has lk_Ba_43 (oz_Ba ko0) rfl (by decide) rfl rfl (Nat.le_of_ble_eq_true rfl) rfl ?_
  refine jr_if_ne 5 10 C d_Ba_tell_5 (by decide) (fun c2_ => ?_) (fun c2_ => ?_)
  · have h := jz_t c2_ h
    refine jr_iload_n 10 C d_Ba_tell_10 rfl ?_
    by_cases c3_ : a2 = 0
    · have h := jz_t c3_ h
      refine jr_tsIn 11 44 0 C d_Ba_tell_11 c3_ (by decide) (by decide) rfl (by decide) ?_
      refine jr_aload_n 44 C d_Ba_tell_44 rfl ?_
      refine gf_Ba_9 45 C d_Ba_tell_45 ko0 ?_
      refine jr_iload_n 48 C d_Ba_tell_48 rfl ?_
      obtain ⟨j4_, ej4_, h⟩ := jz_b h
      refine jr_iald 49 C d_Ba_tell_49 (zk_Ba_sequences ko0) ej4_ ?_
      obtain rfl := Option.some.inj h
      exact jr_iret 50 (v := (m (o0 + 1) j4_)) C d_Ba_tell_50 rfl
    · have h := jz_f c3_ h
      by_cases c5_ : a2 = 1
      · have h := jz_t c5_ h
        refine jr_tsIn 11 51 1 C d_Ba_tell_11 c5_ (by decide) (by decide) rfl (by decide) ?_
        refine jr_aload_n 51 C d_Ba_tell_51 rfl ?_
        refine gf_Ba_18 52 C d_Ba_tell_52 ko0 ?_
        refine jr_iload_n 55 C d_Ba_tell_55 rfl ?_
        obtain ⟨j6_, ej6_, h⟩ := jz_b h
        refine jr_iald 56 C d_Ba_tell_56 (zk_Ba_lives ko0) ej6_ ?_
        obtain rfl := Option.some.inj h
        exact jr_iret 57 (v := (m (o0 + 3) j6_)) C d_Ba_tell_57 rfl
      · have h := jz_f c5_ h
        by_cases c7_ : a2 = 2
        · have h := jz_t c7_ h
          refine jr_tsIn 11 58 2 C d_Ba_tell_11 c7_ (by decide) (by decide) rfl (by decide) ?_
          refine jr_aload_n 58 C d_Ba_tell_58 rfl ?_
          refine gf_Ba_24 59 C d_Ba_tell_59 ko0 ?_
          refine jr_iload_n 62 C d_Ba_tell_62 rfl ?_
          obtain ⟨j8_, ej8_, h⟩ := jz_b h
          refine jr_zald 63 C d_Ba_tell_63 (zk_Ba_exits ko0) ej8_ ?_
          refine jr_if_eq 64 71 C d_Ba_tell_64 (by decide) (fun c9_ => ?_) (fun c9_ => ?_)
          · have h := jz_t c9_ h
            refine jr_iconst 71 0 C d_Ba_tell_71 (by decide) ?_
            obtain rfl := Option.some.inj h
            exact jr_iret 72 (v := 0) C d_Ba_tell_72 rfl
          · have h := jz_f c9_ h
            refine jr_iconst 67 1 C d_Ba_tell_67 (by decide) ?_
            refine jr_goto 68 72 C d_Ba_tell_68 (by decide) ?_
            obtain rfl := Option.some.inj h
            exact jr_iret 72 (v := 1) C d_Ba_tell_72 rfl
        · have h := jz_f c7_ h
          by_cases c10_ : a2 = 3
          · have h := jz_t c10_ h
            refine jr_tsIn 11 73 3 C d_Ba_tell_11 c10_ (by decide) (by decide) rfl (by decide) ?_
            refine jr_aload_n 73 C d_Ba_tell_73 rfl ?_
            refine gf_Ba_28 74 C d_Ba_tell_74 ko0 ?_
            refine jr_iload_n 77 C d_Ba_tell_77 rfl ?_
            obtain ⟨j11_, ej11_, h⟩ := jz_b h
            refine jr_iald 78 C d_Ba_tell_78 (zk_Ba_areas ko0) ej11_ ?_
            obtain rfl := Option.some.inj h
            exact jr_iret 79 (v := (m (o0 + 6) j11_)) C d_Ba_tell_79 rfl
          · have h := jz_f c10_ h
            by_cases c12_ : a2 = 4
            · have h := jz_t c12_ h
              refine jr_tsIn 11 80 4 C d_Ba_tell_11 c12_ (by decide) (by decide) rfl (by decide) ?_
              refine jr_aload_n 80 C d_Ba_tell_80 rfl ?_
              refine gf_Ba_31 81 C d_Ba_tell_81 ko0 ?_
              refine jr_iload_n 84 C d_Ba_tell_84 rfl ?_
              obtain ⟨j13_, ej13_, h⟩ := jz_b h
              refine jr_iald 85 C d_Ba_tell_85 (zk_Ba_linkCounts ko0) ej13_ ?_
              obtain rfl := Option.some.inj h
              exact jr_iret 86 (v := (m (o0 + 7) j13_)) C d_Ba_tell_86 rfl
            · have h := jz_f c12_ h
              refine jr_tsOut 11 87 C d_Ba_tell_11 (tz_out_0_4 c3_ c5_ c7_ c10_ c12_) (by decide) ?_
              refine jr_iload_n 87 C d_Ba_tell_87 rfl ?_
              refine jr_iconst 88 4 C d_Ba_tell_88 (by decide) ?_
              refine jr_icmp_le 89 115 C d_Ba_tell_89 (by decide) (fun c14_ => ?_) (fun c14_ => ?_)
              · have h := jz_t c14_ h
                refine jr_iconst 115 (-1) C d_Ba_tell_115 (by decide) ?_
                obtain rfl := Option.some.inj h
                exact jr_iret 116 (v := (-1)) C d_Ba_tell_116 rfl
              · have h := jz_f c14_ h
                refine jr_iload_n 92 C d_Ba_tell_92 rfl ?_
                refine jr_iconst 93 5 C d_Ba_tell_93 (by decide) ?_
                refine jr_isub 94 C d_Ba_tell_94 ?_
                refine jr_aload_n 95 C d_Ba_tell_95 rfl ?_
                refine gf_Ba_31 96 C d_Ba_tell_96 ko0 ?_
                refine jr_iload_n 99 C d_Ba_tell_99 rfl ?_
                obtain ⟨j15_, ej15_, h⟩ := jz_b h
                refine jr_iald 100 C d_Ba_tell_100 (zk_Ba_linkCounts ko0) ej15_ ?_
                refine jr_icmp_ge 101 115 C d_Ba_tell_101 (by decide) (fun c16_ => ?_) (fun c16_ => ?_)
                · have h := jz_t c16_ h
                  refine jr_iconst 115 (-1) C d_Ba_tell_115 (by decide) ?_
                  obtain rfl := Option.some.inj h
                  exact jr_iret 116 (v := (-1)) C d_Ba_tell_116 rfl
                · have h := jz_f c16_ h
                  refine jr_aload_n 104 C d_Ba_tell_104 rfl ?_
                  refine jr_iload_n 105 C d_Ba_tell_105 rfl ?_
                  refine jr_iload_n 106 C d_Ba_tell_106 rfl ?_
                  refine jr_iconst 107 5 C d_Ba_tell_107 (by decide) ?_
                  refine jr_isub 108 C d_Ba_tell_108 ?_
                  obtain ⟨v17_, ev17_, h⟩ := jz_b h
                  refine jr_callV 109 [.int a1, .int (a2 - 5)] C d_Ba_tell_109 (c_Ba_linkOf (xz_l X) C.2.2.2.2.2.2.1 ko0 ev17_) sz_Ba_linkOf tz_Ba_linkOf lk_Ba_47 (oz_Ba ko0) rfl (by decide) rfl rfl (Nat.le_of_ble_eq_true rfl) rfl ?_
                  refine jr_goto 112 116 C d_Ba_tell_112 (by decide) ?_
                  obtain rfl := Option.some.inj h
                  exact jr_iret 116 (v := v17_) C d_Ba_tell_116 rfl
  · have h := jz_f c2_ h
    refine jr_iconst 8 (-1) C d_Ba_tell_8 (by decide) ?_
    obtain rfl := Option.some.inj h
    exact jr_iret 9 (v := (-1)) C d_Ba_tell_9 rfl
abbrev rm_AR_description : Room := { frames := 2, cells := 0, slots := 0, locals := 44 }
abbrev cd_AR_description : Cond := .code y_AR_description b_AR_description 5 (some .int)
def f_AR_description (a1 : Int32) (a2 : Int32) (a3 : Int32) (a4 : Int32) (m : jz_M) : Option (Int32) :=
  (f_AR_isRouter a1 m).bind fun v1_ =>
  if v1_ = 0 then
    some (-1)
  else
    (f_AR_isLevel a2 m).bind fun v3_ =>
    if v3_ = 0 then
      some (-1)
    else
      (f_AR_isName a3 m).bind fun v5_ =>
      if ¬ v5_ = 0 then
        (f_AR_baseOf a1 a2 m).bind fun v7_ =>
        (f_Ba_tell v7_ a3 a4 m).bind fun v8_ =>
        some v8_
      else
        some (-1)
set_option maxHeartbeats 4000000 in
set_option maxRecDepth 100000 in
theorem c_AR_description {Z : cz_Z} (l : Launch) (hI : jz_I (cz_G Z)) {a1 : Int32} {a2 : Int32} {a3 : Int32} {a4 : Int32} {m : jz_M} {r : Int32} (h : f_AR_description a1 a2 a3 a4 m = some r) : jz_m l y_AR_description cd_AR_description rm_AR_description (cz_G Z) [.ref (gz_ad (cz_G Z) 0), .int a1, .int a2, .int a3, .int a4] m (some (.int r)) m := by
  refine jz_met (own := R_AR) (by decide) rfl hI (Nat.le_of_ble_eq_true rfl) (fun X hX C => ?_)
  subst hX
  show jz_J X 5 (cz_G Z) _ m [(0, .ref (gz_ad (cz_G Z) 0)), (1, .int a1), (2, .int a2), (3, .int a3), (4, .int a4)] 0 []
  unfold f_AR_description at h
  refine jr_iload_n 0 C d_AR_description_0 rfl ?_
  obtain ⟨v1_, ev1_, h⟩ := jz_b h
  refine jr_callS 1 [.int a1] C d_AR_description_1 (c_AR_isRouter (xz_l X) C.2.2.2.2.2.2.1 ev1_) sz_AR_isRouter tz_AR_isRouter lk_AR_51 (by decide) rfl rfl (Nat.le_of_ble_eq_true rfl) rfl ?_
  refine jr_if_eq 4 21 C d_AR_description_4 (by decide) (fun c2_ => ?_) (fun c2_ => ?_)
  · have h := jz_t c2_ h
    refine jr_iconst 21 (-1) C d_AR_description_21 (by decide) ?_
    obtain rfl := Option.some.inj h
    exact jr_iret 22 (v := (-1)) C d_AR_description_22 rfl
  · have h := jz_f c2_ h
    refine jr_iload_n 7 C d_AR_description_7 rfl ?_
    obtain ⟨v3_, ev3_, h⟩ := jz_b h
    refine jr_callS 8 [.int a2] C d_AR_description_8 (c_AR_isLevel (xz_l X) C.2.2.2.2.2.2.1  ev3_) sz_AR_isLevel tz_AR_isLevel lk_AR_147 (by decide) rfl rfl (Nat.le_of_ble_eq_true rfl) rfl ?_
    refine jr_if_eq 11 21 C d_AR_description_11 (by decide) (fun c4_ => ?_) (fun c4_ => ?_)
    · have h := jz_t c4_ h
      refine jr_iconst 21 (-1) C d_AR_description_21 (by decide) ?_
      obtain rfl := Option.some.inj h
      exact jr_iret 22 (v := (-1)) C d_AR_description_22 rfl
    · have h := jz_f c4_ h
      refine jr_iload_n 14 C d_AR_description_14 rfl ?_
      obtain ⟨v5_, ev5_, h⟩ := jz_b h
      refine jr_callS 15 [.int a3] C d_AR_description_15 (c_AR_isName (xz_l X) C.2.2.2.2.2.2.1  ev5_) sz_AR_isName tz_AR_isName lk_AR_161 (by decide) rfl rfl (Nat.le_of_ble_eq_true rfl) rfl ?_
      refine jr_if_ne 18 23 C d_AR_description_18 (by decide) (fun c6_ => ?_) (fun c6_ => ?_)
      · have h := jz_t c6_ h
        refine jr_aload_n 23 C d_AR_description_23 rfl ?_
        refine jr_iload_n 24 C d_AR_description_24 rfl ?_
        refine jr_iload_n 25 C d_AR_description_25 rfl ?_
        obtain ⟨v7_, ev7_, h⟩ := jz_b h
        refine jr_callV 26 [.int a1, .int a2] C d_AR_description_26 (c_AR_baseOf (xz_l X) C.2.2.2.2.2.2.1  ev7_) sz_AR_baseOf tz_AR_baseOf lk_AR_87 oz_AR rfl (by decide) rfl rfl (Nat.le_of_ble_eq_true rfl) rfl ?_
        refine jr_iload_n 29 C d_AR_description_29 rfl ?_
        refine jr_iload 30 C d_AR_description_30 rfl ?_
        obtain ⟨v8_, ev8_, h⟩ := jz_b h
        refine jr_callVN 32 [.int a3, .int a4] C d_AR_description_32 (c_Ba_tell (xz_l X) C.2.2.2.2.2.2.1 (kr_AR_baseOf ev7_) ev8_) sz_Ba_tell tz_Ba_tell lk_AR_164 (oz_Ba (kr_AR_baseOf ev7_)) rfl (by decide) rfl rfl (Nat.le_of_ble_eq_true rfl) rfl ?_
        obtain rfl := Option.some.inj h
        exact jr_iret 35 (v := v8_) C d_AR_description_35 rfl
      · have h := jz_f c6_ h
        refine jr_iconst 21 (-1) C d_AR_description_21 (by decide) ?_
        obtain rfl := Option.some.inj h
        exact jr_iret 22 (v := (-1)) C d_AR_description_22 rfl
abbrev rm_Ba_marksOf : Room := { frames := 0, cells := 0, slots := 0, locals := 0 }
abbrev cd_Ba_marksOf : Cond := .code y_Ba_marksOf b_Ba_marksOf 2 (some .int)
def f_Ba_marksOf (o0 : Nat) (a1 : Int32) (m : jz_M) : Option (Int32) :=
  (jz_ix 42 a1).bind fun j1_ =>
  (jz_ix 42 a1).bind fun j2_ =>
  some ((m (o0 + 9) j1_) + ((64 : Int32) * (m (o0 + 10) j2_)))
set_option maxHeartbeats 4000000 in
set_option maxRecDepth 100000 in
theorem c_Ba_marksOf {Z : cz_Z} (l : Launch) (hI : jz_I (cz_G Z)) {o0 : Nat} {a1 : Int32} {m : jz_M} {r : Int32} (ko0 : kz_Ba o0) (h : f_Ba_marksOf o0 a1 m = some r) : jz_m l y_Ba_marksOf cd_Ba_marksOf rm_Ba_marksOf (cz_G Z) [.ref (gz_ad (cz_G Z) o0), .int a1] m (some (.int r)) m := by
  refine jz_met (own := R_Ba) (by decide) rfl hI (Nat.le_of_ble_eq_true rfl) (fun X hX C => ?_)
  subst hX
  show jz_J X 2 (cz_G Z) _ m [(0, .ref (gz_ad (cz_G Z) o0)), (1, .int a1)] 0 []
  unfold f_Ba_marksOf at h
  refine jr_aload_n 0 C d_Ba_marksOf_0 rfl ?_
  refine gf_Ba_37 1 C d_Ba_marksOf_1 ko0 ?_
  refine jr_iload_n 4 C d_Ba_marksOf_4 rfl ?_
  obtain ⟨j1_, ej1_, h⟩ := jz_b h
  refine jr_iald 5 C d_Ba_marksOf_5 (zk_Ba_due ko0) ej1_ ?_
  refine jr_bipush 6 64 C d_Ba_marksOf_6 (by decide) ?_
  refine jr_aload_n 8 C d_Ba_marksOf_8 rfl ?_
  refine gf_Ba_40 9 C d_Ba_marksOf_9 ko0 ?_
  refine jr_iload_n 12 C d_Ba_marksOf_12 rfl ?_
  obtain ⟨j2_, ej2_, h⟩ := jz_b h
  refine jr_iald 13 C d_Ba_marksOf_13 (zk_Ba_asked ko0) ej2_ ?_
  refine jr_imul 14 C d_Ba_marksOf_14 ?_
  refine jr_iadd 15 C d_Ba_marksOf_15 ?_
  obtain rfl := Option.some.inj h
  exact jr_iret 16 (v := ((m (o0 + 9) j1_) + ((64 : Int32) * (m (o0 + 10) j2_)))) C d_Ba_marksOf_16 rfl
abbrev rm_AR_marks : Room := { frames := 2, cells := 0, slots := 0, locals := 42 }
abbrev cd_AR_marks : Cond := .code y_AR_marks b_AR_marks 4 (some .int)
def f_AR_marks (a1 : Int32) (a2 : Int32) (a3 : Int32) (m : jz_M) : Option (Int32) :=
  (f_AR_isRouter a1 m).bind fun v1_ =>
  if v1_ = 0 then
    some (-1)
  else
    (f_AR_hasLevel a1 a2 m).bind fun v3_ =>
    if v3_ = 0 then
      some (-1)
    else
      (f_AR_isName a3 m).bind fun v5_ =>
      if ¬ v5_ = 0 then
        (f_AR_baseOf a1 a2 m).bind fun v7_ =>
        (f_Ba_marksOf v7_ a3 m).bind fun v8_ =>
        some v8_
      else
        some (-1)
set_option maxHeartbeats 4000000 in
set_option maxRecDepth 100000 in
theorem c_AR_marks {Z : cz_Z} (l : Launch) (hI : jz_I (cz_G Z)) {a1 : Int32} {a2 : Int32} {a3 : Int32} {m : jz_M} {r : Int32} (h : f_AR_marks a1 a2 a3 m = some r) : jz_m l y_AR_marks cd_AR_marks rm_AR_marks (cz_G Z) [.ref (gz_ad (cz_G Z) 0), .int a1, .int a2, .int a3] m (some (.int r)) m := by
  refine jz_met (own := R_AR) (by decide) rfl hI (Nat.le_of_ble_eq_true rfl) (fun X hX C => ?_)
  subst hX
  show jz_J X 4 (cz_G Z) _ m [(0, .ref (gz_ad (cz_G Z) 0)), (1, .int a1), (2, .int a2), (3, .int a3)] 0 []
  unfold f_AR_marks at h
  refine jr_iload_n 0 C d_AR_marks_0 rfl ?_
  obtain ⟨v1_, ev1_, h⟩ := jz_b h
  refine jr_callS 1 [.int a1] C d_AR_marks_1 (c_AR_isRouter (xz_l X) C.2.2.2.2.2.2.1 ev1_) sz_AR_isRouter tz_AR_isRouter lk_AR_51 (by decide) rfl rfl (Nat.le_of_ble_eq_true rfl) rfl ?_
  refine jr_if_eq 4 23 C d_AR_marks_4 (by decide) (fun c2_ => ?_) (fun c2_ => ?_)
  · have h := jz_t c2_ h
    refine jr_iconst 23 (-1) C d_AR_marks_23 (by decide) ?_
    obtain rfl := Option.some.inj h
    exact jr_iret 24 (v := (-1)) C d_AR_marks_24 rfl
  · have h := jz_f c2_ h
    refine jr_aload_n 7 C d_AR_marks_7 rfl ?_
    refine jr_iload_n 8 C d_AR_marks_8 rfl ?_
    refine jr_iload_n 9 C d_AR_marks_9 rfl ?_
    obtain ⟨v3_, ev3_, h⟩ := jz_b h
    refine jr_callV 10 [.int a1, .int a2] C d_AR_marks_10 (c_AR_hasLevel (xz_l X) C.2.2.2.2.2.2.1  ev3_) sz_AR_hasLevel tz_AR_hasLevel lk_AR_134 oz_AR rfl (by decide) rfl rfl (Nat.le_of_ble_eq_true rfl) rfl ?_
    refine jr_if_eq 13 23 C d_AR_marks_13 (by decide) (fun c4_ => ?_) (fun c4_ => ?_)
    · have h := jz_t c4_ h
      refine jr_iconst 23 (-1) C d_AR_marks_23 (by decide) ?_
      obtain rfl := Option.some.inj h
      exact jr_iret 24 (v := (-1)) C d_AR_marks_24 rfl
    · have h := jz_f c4_ h
      refine jr_iload_n 16 C d_AR_marks_16 rfl ?_
      obtain ⟨v5_, ev5_, h⟩ := jz_b h
      refine jr_callS 17 [.int a3] C d_AR_marks_17 (c_AR_isName (xz_l X) C.2.2.2.2.2.2.1  ev5_) sz_AR_isName tz_AR_isName lk_AR_161 (by decide) rfl rfl (Nat.le_of_ble_eq_true rfl) rfl ?_
      refine jr_if_ne 20 25 C d_AR_marks_20 (by decide) (fun c6_ => ?_) (fun c6_ => ?_)
      · have h := jz_t c6_ h
        refine jr_aload_n 25 C d_AR_marks_25 rfl ?_
        refine jr_iload_n 26 C d_AR_marks_26 rfl ?_
        refine jr_iload_n 27 C d_AR_marks_27 rfl ?_
        obtain ⟨v7_, ev7_, h⟩ := jz_b h
        refine jr_callV 28 [.int a1, .int a2] C d_AR_marks_28 (c_AR_baseOf (xz_l X) C.2.2.2.2.2.2.1  ev7_) sz_AR_baseOf tz_AR_baseOf lk_AR_87 oz_AR rfl (by decide) rfl rfl (Nat.le_of_ble_eq_true rfl) rfl ?_
        refine jr_iload_n 31 C d_AR_marks_31 rfl ?_
        obtain ⟨v8_, ev8_, h⟩ := jz_b h
        refine jr_callVN 32 [.int a3] C d_AR_marks_32 (c_Ba_marksOf (xz_l X) C.2.2.2.2.2.2.1 (kr_AR_baseOf ev7_) ev8_) sz_Ba_marksOf tz_Ba_marksOf lk_AR_168 (oz_Ba (kr_AR_baseOf ev7_)) rfl (by decide) rfl rfl (Nat.le_of_ble_eq_true rfl) rfl ?_
        obtain rfl := Option.some.inj h
        exact jr_iret 35 (v := v8_) C d_AR_marks_35 rfl
      · have h := jz_f c6_ h
        refine jr_iconst 23 (-1) C d_AR_marks_23 (by decide) ?_
        obtain rfl := Option.some.inj h
        exact jr_iret 24 (v := (-1)) C d_AR_marks_24 rfl
abbrev rm_Wa_nextToSettle : Room := { frames := 1, cells := 0, slots := 0, locals := 20 }
abbrev cd_Wa_nextToSettle : Cond := .code y_Wa_nextToSettle b_Wa_nextToSettle 3 (some .int)
def f_Wa_nextToSettle_49 (m : jz_M) (k4 : Int32 → Int32 → Option (Int32)) (x2 : Int32) : Option (Int32) :=
  jz_n (x2 + 1) fun x1_ =>
  k4 x2 x1_
set_option maxHeartbeats 4000000 in
set_option maxRecDepth 100000 in
theorem t_Wa_nextToSettle_49 {Z : cz_Z} {X : jz_X} {m : jz_M} {r : Int32} (C : jz_C X 3 b_Wa_nextToSettle R_Wa (some .int) rm_Wa_nextToSettle (cz_G Z)) (k4 : Int32 → Int32 → Option (Int32)) (hk4 : ∀ (x1 : Int32) (x2 : Int32), k4 x1 x2 = some r → jz_J X 3 (cz_G Z) (jz_q X (cz_G Z) (some (.int r)) m) m [(0, .ref (gz_ad (cz_G Z) 148)), (1, .int x1), (2, .int x2)] 4 []) : ∀ (x2 : Int32) , f_Wa_nextToSettle_49 m k4 x2 = some r → jz_J X 3 (cz_G Z) (jz_q X (cz_G Z) (some (.int r)) m) m [(0, .ref (gz_ad (cz_G Z) 148)), (2, .int x2)] 49 [] := by
  intro x2 h
  unfold f_Wa_nextToSettle_49 at h
  refine jr_iload_n 49 C d_Wa_nextToSettle_49 rfl ?_
  refine jr_istore_n 50 [(0, .ref (gz_ad (cz_G Z) 148)), (2, .int x2), (1, .int x2)] C d_Wa_nextToSettle_50 rfl (by decide) rfl ?_
  refine jr_goto 51 85 C d_Wa_nextToSettle_51 (by decide) ?_
  obtain ⟨x1_, ex1_, h⟩ := jz_ne h
  refine jr_iinc 85 [(0, .ref (gz_ad (cz_G Z) 148)), (2, .int x1_), (1, .int x2)] C d_Wa_nextToSettle_85 rfl (by decide) rfl (by rw [ex1_]; rfl) rfl ?_
  refine jr_goto 88 4 C d_Wa_nextToSettle_88 (by decide) ?_
  refine jr_sub [0, 2, 1] rfl ?_
  exact hk4 x2 x1_ h
def f_Wa_nextToSettle_4 (m : jz_M) : Nat → Int32 → Int32 → Option (Int32)
  | 0, _, _ => none
  | fu + 1, x1, x2 =>
    if 42 ≤ x2 then
      some x1
    else
      (jz_ix 42 x2).bind fun j2_ =>
      if ¬ (m 151 j2_) = 0 then
        jz_n (x2 + 1) fun x4_ =>
        f_Wa_nextToSettle_4 m fu x1 x4_
      else
        (jz_ix 42 x2).bind fun j5_ =>
        if 1000000 ≤ (m 149 j5_) then
          jz_n (x2 + 1) fun x7_ =>
          f_Wa_nextToSettle_4 m fu x1 x7_
        else
          if x1 < 0 then
            f_Wa_nextToSettle_49 m (f_Wa_nextToSettle_4 m fu) x2
          else
            (jz_ix 42 x2).bind fun j9_ =>
            (jz_ix 42 x1).bind fun j10_ =>
            if (m 149 j10_) ≤ (m 149 j9_) then
              (jz_ix 42 x2).bind fun j12_ =>
              (jz_ix 42 x1).bind fun j13_ =>
              if ¬ (m 149 j12_) = (m 149 j13_) then
                jz_n (x2 + 1) fun x15_ =>
                f_Wa_nextToSettle_4 m fu x1 x15_
              else
                (f_AR_partOf x1 m).bind fun v16_ =>
                if ¬ v16_ = 0 then
                  jz_n (x2 + 1) fun x18_ =>
                  f_Wa_nextToSettle_4 m fu x1 x18_
                else
                  (f_AR_partOf x2 m).bind fun v19_ =>
                  if v19_ ≤ 0 then
                    jz_n (x2 + 1) fun x21_ =>
                    f_Wa_nextToSettle_4 m fu x1 x21_
                  else
                    jz_n (x2 + 1) fun x22_ =>
                    f_Wa_nextToSettle_4 m fu x2 x22_
            else
              f_Wa_nextToSettle_49 m (f_Wa_nextToSettle_4 m fu) x2
set_option maxHeartbeats 4000000 in
set_option maxRecDepth 100000 in
theorem t_Wa_nextToSettle_4 {Z : cz_Z} {X : jz_X} {m : jz_M} {r : Int32} (C : jz_C X 3 b_Wa_nextToSettle R_Wa (some .int) rm_Wa_nextToSettle (cz_G Z)) : ∀ (fu : Nat) (x1 : Int32) (x2 : Int32) , f_Wa_nextToSettle_4 m fu x1 x2 = some r → jz_J X 3 (cz_G Z) (jz_q X (cz_G Z) (some (.int r)) m) m [(0, .ref (gz_ad (cz_G Z) 148)), (1, .int x1), (2, .int x2)] 4 [] := by
  intro fu
  induction fu with
  | zero => intro x1 x2 h; cases h
  | succ fu ih =>
    intro x1 x2 h
    rw [f_Wa_nextToSettle_4] at h
    refine jr_iload_n 4 C d_Wa_nextToSettle_4 rfl ?_
    refine jr_bipush 5 42 C d_Wa_nextToSettle_5 (by decide) ?_
    refine jr_icmp_ge 7 91 C d_Wa_nextToSettle_7 (by decide) (fun c1_ => ?_) (fun c1_ => ?_)
    · have h := jz_t c1_ h
      refine jr_iload_n 91 C d_Wa_nextToSettle_91 rfl ?_
      obtain rfl := Option.some.inj h
      exact jr_iret 92 (v := x1) C d_Wa_nextToSettle_92 rfl
    · have h := jz_f c1_ h
      refine jr_aload_n 10 C d_Wa_nextToSettle_10 rfl ?_
      refine gf_Wa_18 11 C d_Wa_nextToSettle_11 ?_
      refine jr_iload_n 14 C d_Wa_nextToSettle_14 rfl ?_
      obtain ⟨j2_, ej2_, h⟩ := jz_b h
      refine jr_zald 15 C d_Wa_nextToSettle_15 zk_Wa_settled ej2_ ?_
      refine jr_if_ne 16 85 C d_Wa_nextToSettle_16 (by decide) (fun c3_ => ?_) (fun c3_ => ?_)
      · have h := jz_t c3_ h
        obtain ⟨x4_, ex4_, h⟩ := jz_ne h
        refine jr_iinc 85 [(0, .ref (gz_ad (cz_G Z) 148)), (1, .int x1), (2, .int x4_)] C d_Wa_nextToSettle_85 rfl (by decide) rfl (by rw [ex4_]; rfl) rfl ?_
        refine jr_goto 88 4 C d_Wa_nextToSettle_88 (by decide) ?_
        refine jr_sub [0, 1, 2] rfl ?_
        exact ih x1 x4_  h
      · have h := jz_f c3_ h
        refine jr_aload_n 19 C d_Wa_nextToSettle_19 rfl ?_
        refine gf_Wa_9 20 C d_Wa_nextToSettle_20 ?_
        refine jr_iload_n 23 C d_Wa_nextToSettle_23 rfl ?_
        obtain ⟨j5_, ej5_, h⟩ := jz_b h
        refine jr_iald 24 C d_Wa_nextToSettle_24 zk_Wa_costs ej5_ ?_
        refine jr_ldc 25 1000000 C d_Wa_nextToSettle_25 lk_Wa_22 ?_
        refine jr_icmp_ge 27 85 C d_Wa_nextToSettle_27 (by decide) (fun c6_ => ?_) (fun c6_ => ?_)
        · have h := jz_t c6_ h
          obtain ⟨x7_, ex7_, h⟩ := jz_ne h
          refine jr_iinc 85 [(0, .ref (gz_ad (cz_G Z) 148)), (1, .int x1), (2, .int x7_)] C d_Wa_nextToSettle_85 rfl (by decide) rfl (by rw [ex7_]; rfl) rfl ?_
          refine jr_goto 88 4 C d_Wa_nextToSettle_88 (by decide) ?_
          refine jr_sub [0, 1, 2] rfl ?_
          exact ih x1 x7_  h
        · have h := jz_f c6_ h
          refine jr_iload_n 30 C d_Wa_nextToSettle_30 rfl ?_
          refine jr_if_lt 31 49 C d_Wa_nextToSettle_31 (by decide) (fun c8_ => ?_) (fun c8_ => ?_)
          · have h := jz_t c8_ h
            refine jr_sub [0, 2] rfl ?_
            exact t_Wa_nextToSettle_49 C (f_Wa_nextToSettle_4 m fu) ih x2 h
          · have h := jz_f c8_ h
            refine jr_aload_n 34 C d_Wa_nextToSettle_34 rfl ?_
            refine gf_Wa_9 35 C d_Wa_nextToSettle_35 ?_
            refine jr_iload_n 38 C d_Wa_nextToSettle_38 rfl ?_
            obtain ⟨j9_, ej9_, h⟩ := jz_b h
            refine jr_iald 39 C d_Wa_nextToSettle_39 zk_Wa_costs ej9_ ?_
            refine jr_aload_n 40 C d_Wa_nextToSettle_40 rfl ?_
            refine gf_Wa_9 41 C d_Wa_nextToSettle_41 ?_
            refine jr_iload_n 44 C d_Wa_nextToSettle_44 rfl ?_
            obtain ⟨j10_, ej10_, h⟩ := jz_b h
            refine jr_iald 45 C d_Wa_nextToSettle_45 zk_Wa_costs ej10_ ?_
            refine jr_icmp_ge 46 54 C d_Wa_nextToSettle_46 (by decide) (fun c11_ => ?_) (fun c11_ => ?_)
            · have h := jz_t c11_ h
              refine jr_aload_n 54 C d_Wa_nextToSettle_54 rfl ?_
              refine gf_Wa_9 55 C d_Wa_nextToSettle_55 ?_
              refine jr_iload_n 58 C d_Wa_nextToSettle_58 rfl ?_
              obtain ⟨j12_, ej12_, h⟩ := jz_b h
              refine jr_iald 59 C d_Wa_nextToSettle_59 zk_Wa_costs ej12_ ?_
              refine jr_aload_n 60 C d_Wa_nextToSettle_60 rfl ?_
              refine gf_Wa_9 61 C d_Wa_nextToSettle_61 ?_
              refine jr_iload_n 64 C d_Wa_nextToSettle_64 rfl ?_
              obtain ⟨j13_, ej13_, h⟩ := jz_b h
              refine jr_iald 65 C d_Wa_nextToSettle_65 zk_Wa_costs ej13_ ?_
              refine jr_icmp_ne 66 85 C d_Wa_nextToSettle_66 (by decide) (fun c14_ => ?_) (fun c14_ => ?_)
              · have h := jz_t c14_ h
                obtain ⟨x15_, ex15_, h⟩ := jz_ne h
                refine jr_iinc 85 [(0, .ref (gz_ad (cz_G Z) 148)), (1, .int x1), (2, .int x15_)] C d_Wa_nextToSettle_85 rfl (by decide) rfl (by rw [ex15_]; rfl) rfl ?_
                refine jr_goto 88 4 C d_Wa_nextToSettle_88 (by decide) ?_
                refine jr_sub [0, 1, 2] rfl ?_
                exact ih x1 x15_  h
              · have h := jz_f c14_ h
                refine jr_iload_n 69 C d_Wa_nextToSettle_69 rfl ?_
                obtain ⟨v16_, ev16_, h⟩ := jz_b h
                refine jr_callSN 70 [.int x1] C d_Wa_nextToSettle_70 (c_AR_partOf (xz_l X) C.2.2.2.2.2.2.1  ev16_) sz_AR_partOf tz_AR_partOf lk_Wa_31 (by decide) rfl rfl (Nat.le_of_ble_eq_true rfl) rfl ?_
                refine jr_if_ne 73 85 C d_Wa_nextToSettle_73 (by decide) (fun c17_ => ?_) (fun c17_ => ?_)
                · have h := jz_t c17_ h
                  obtain ⟨x18_, ex18_, h⟩ := jz_ne h
                  refine jr_iinc 85 [(0, .ref (gz_ad (cz_G Z) 148)), (1, .int x1), (2, .int x18_)] C d_Wa_nextToSettle_85 rfl (by decide) rfl (by rw [ex18_]; rfl) rfl ?_
                  refine jr_goto 88 4 C d_Wa_nextToSettle_88 (by decide) ?_
                  refine jr_sub [0, 1, 2] rfl ?_
                  exact ih x1 x18_  h
                · have h := jz_f c17_ h
                  refine jr_iload_n 76 C d_Wa_nextToSettle_76 rfl ?_
                  obtain ⟨v19_, ev19_, h⟩ := jz_b h
                  refine jr_callSN 77 [.int x2] C d_Wa_nextToSettle_77 (c_AR_partOf (xz_l X) C.2.2.2.2.2.2.1  ev19_) sz_AR_partOf tz_AR_partOf lk_Wa_31 (by decide) rfl rfl (Nat.le_of_ble_eq_true rfl) rfl ?_
                  refine jr_if_le 80 85 C d_Wa_nextToSettle_80 (by decide) (fun c20_ => ?_) (fun c20_ => ?_)
                  · have h := jz_t c20_ h
                    obtain ⟨x21_, ex21_, h⟩ := jz_ne h
                    refine jr_iinc 85 [(0, .ref (gz_ad (cz_G Z) 148)), (1, .int x1), (2, .int x21_)] C d_Wa_nextToSettle_85 rfl (by decide) rfl (by rw [ex21_]; rfl) rfl ?_
                    refine jr_goto 88 4 C d_Wa_nextToSettle_88 (by decide) ?_
                    refine jr_sub [0, 1, 2] rfl ?_
                    exact ih x1 x21_  h
                  · have h := jz_f c20_ h
                    refine jr_iload_n 83 C d_Wa_nextToSettle_83 rfl ?_
                    refine jr_istore_n 84 [(0, .ref (gz_ad (cz_G Z) 148)), (1, .int x2), (2, .int x2)] C d_Wa_nextToSettle_84 rfl (by decide) rfl ?_
                    obtain ⟨x22_, ex22_, h⟩ := jz_ne h
                    refine jr_iinc 85 [(0, .ref (gz_ad (cz_G Z) 148)), (1, .int x2), (2, .int x22_)] C d_Wa_nextToSettle_85 rfl (by decide) rfl (by rw [ex22_]; rfl) rfl ?_
                    refine jr_goto 88 4 C d_Wa_nextToSettle_88 (by decide) ?_
                    refine jr_sub [0, 1, 2] rfl ?_
                    exact ih x2 x22_  h
            · have h := jz_f c11_ h
              refine jr_sub [0, 2] rfl ?_
              exact t_Wa_nextToSettle_49 C (f_Wa_nextToSettle_4 m fu) ih x2 h
def f_Wa_nextToSettle (m : jz_M) : Option (Int32) :=
  f_Wa_nextToSettle_4 m 1000 (-1) 0
set_option maxHeartbeats 4000000 in
set_option maxRecDepth 100000 in
theorem c_Wa_nextToSettle {Z : cz_Z} (l : Launch) (hI : jz_I (cz_G Z)) {m : jz_M} {r : Int32} (h : f_Wa_nextToSettle m = some r) : jz_m l y_Wa_nextToSettle cd_Wa_nextToSettle rm_Wa_nextToSettle (cz_G Z) [.ref (gz_ad (cz_G Z) 148)] m (some (.int r)) m := by
  refine jz_met (own := R_Wa) (by decide) rfl hI (Nat.le_of_ble_eq_true rfl) (fun X hX C => ?_)
  subst hX
  show jz_J X 3 (cz_G Z) _ m [(0, .ref (gz_ad (cz_G Z) 148))] 0 []
  unfold f_Wa_nextToSettle at h
  refine jr_iconst 0 (-1) C d_Wa_nextToSettle_0 (by decide) ?_
  refine jr_istore_n 1 [(0, .ref (gz_ad (cz_G Z) 148)), (1, .int (-1))] C d_Wa_nextToSettle_1 rfl (by decide) rfl ?_
  refine jr_iconst 2 0 C d_Wa_nextToSettle_2 (by decide) ?_
  refine jr_istore_n 3 [(0, .ref (gz_ad (cz_G Z) 148)), (1, .int (-1)), (2, .int 0)] C d_Wa_nextToSettle_3 rfl (by decide) rfl ?_
  refine jr_sub [0, 1, 2] rfl ?_
  exact t_Wa_nextToSettle_4 C 1000 (-1) 0 h
end
section
abbrev rm_Ba_hasLink : Room := { frames := 1, cells := 0, slots := 0, locals := 22 }
abbrev cd_Ba_hasLink : Cond := .code y_Ba_hasLink b_Ba_hasLink 4 (some .boolean)
def f_Ba_hasLink_2 (m : jz_M) : Nat → Nat → Int32 → Int32 → Int32 → Option (Int32)
  | 0, _, _, _, _ => none
  | fu + 1, o0, x1, x2, x3 =>
    (jz_ix 42 x1).bind fun j1_ =>
    if (m (o0 + 7) j1_) ≤ x3 then
      some 0
    else
      (f_Ba_linkOf o0 x1 x3 m).bind fun v3_ =>
      if ¬ (v3_ - v3_ / 64 * 64) = x2 then
        jz_n (x3 + 1) fun x5_ =>
        f_Ba_hasLink_2 m fu o0 x1 x2 x5_
      else
        some 1
set_option maxHeartbeats 4000000 in
set_option maxRecDepth 100000 in
theorem t_Ba_hasLink_2 {Z : cz_Z} {X : jz_X} {m : jz_M} {r : Int32} (C : jz_C X 4 b_Ba_hasLink R_Ba (some .boolean) rm_Ba_hasLink (cz_G Z)) : ∀ (fu : Nat) (o0 : Nat) (x1 : Int32) (x2 : Int32) (x3 : Int32) , kz_Ba o0 → f_Ba_hasLink_2 m fu o0 x1 x2 x3 = some r → jz_J X 4 (cz_G Z) (jz_q X (cz_G Z) (some (.int r)) m) m [(0, .ref (gz_ad (cz_G Z) o0)), (1, .int x1), (2, .int x2), (3, .int x3)] 2 [] := by
  intro fu
  induction fu with
  | zero => intro o0 x1 x2 x3 k0 h; cases h
  | succ fu ih =>
    intro o0 x1 x2 x3 k0 h
    rw [f_Ba_hasLink_2] at h
    refine jr_iload_n 2 C d_Ba_hasLink_2 rfl ?_
    refine jr_aload_n 3 C d_Ba_hasLink_3 rfl ?_
    refine gf_Ba_31 4 C d_Ba_hasLink_4 k0 ?_
    refine jr_iload_n 7 C d_Ba_hasLink_7 rfl ?_
    obtain ⟨j1_, ej1_, h⟩ := jz_b h
    refine jr_iald 8 C d_Ba_hasLink_8 (zk_Ba_linkCounts k0) ej1_ ?_
    refine jr_icmp_ge 9 33 C d_Ba_hasLink_9 (by decide) (fun c2_ => ?_) (fun c2_ => ?_)
    · have h := jz_t c2_ h
      refine jr_iconst 33 0 C d_Ba_hasLink_33 (by decide) ?_
      obtain rfl := Option.some.inj h
      exact jr_zret 34 (v := 0) C d_Ba_hasLink_34 rfl nb_0
    · have h := jz_f c2_ h
      refine jr_aload_n 12 C d_Ba_hasLink_12 rfl ?_
      refine jr_iload_n 13 C d_Ba_hasLink_13 rfl ?_
      refine jr_iload_n 14 C d_Ba_hasLink_14 rfl ?_
      obtain ⟨v3_, ev3_, h⟩ := jz_b h
      refine jr_callV 15 [.int x1, .int x3] C d_Ba_hasLink_15 (c_Ba_linkOf (xz_l X) C.2.2.2.2.2.2.1 k0 ev3_) sz_Ba_linkOf tz_Ba_linkOf lk_Ba_47 (oz_Ba k0) rfl (by decide) rfl rfl (Nat.le_of_ble_eq_true rfl) rfl ?_
      refine jr_bipush 18 64 C d_Ba_hasLink_18 (by decide) ?_
      refine jr_irem 20 C d_Ba_hasLink_20 (by decide) ?_
      refine jr_iload_n 21 C d_Ba_hasLink_21 rfl ?_
      refine jr_icmp_ne 22 27 C d_Ba_hasLink_22 (by decide) (fun c4_ => ?_) (fun c4_ => ?_)
      · have h := jz_t c4_ h
        obtain ⟨x5_, ex5_, h⟩ := jz_ne h
        refine jr_iinc 27 [(0, .ref (gz_ad (cz_G Z) o0)), (1, .int x1), (2, .int x2), (3, .int x5_)] C d_Ba_hasLink_27 rfl (by decide) rfl (by rw [ex5_]; rfl) rfl ?_
        refine jr_goto 30 2 C d_Ba_hasLink_30 (by decide) ?_
        refine jr_sub [0, 1, 2, 3] rfl ?_
        exact ih o0 x1 x2 x5_ k0 h
      · have h := jz_f c4_ h
        refine jr_iconst 25 1 C d_Ba_hasLink_25 (by decide) ?_
        obtain rfl := Option.some.inj h
        exact jr_zret 26 (v := 1) C d_Ba_hasLink_26 rfl nb_1
def f_Ba_hasLink (o0 : Nat) (a1 : Int32) (a2 : Int32) (m : jz_M) : Option (Int32) :=
  f_Ba_hasLink_2 m 1000 o0 a1 a2 0
set_option maxHeartbeats 4000000 in
set_option maxRecDepth 100000 in
theorem c_Ba_hasLink {Z : cz_Z} (l : Launch) (hI : jz_I (cz_G Z)) {o0 : Nat} {a1 : Int32} {a2 : Int32} {m : jz_M} {r : Int32} (ko0 : kz_Ba o0) (h : f_Ba_hasLink o0 a1 a2 m = some r) : jz_m l y_Ba_hasLink cd_Ba_hasLink rm_Ba_hasLink (cz_G Z) [.ref (gz_ad (cz_G Z) o0), .int a1, .int a2] m (some (.int r)) m := by
  refine jz_met (own := R_Ba) (by decide) rfl hI (Nat.le_of_ble_eq_true rfl) (fun X hX C => ?_)
  subst hX
  show jz_J X 4 (cz_G Z) _ m [(0, .ref (gz_ad (cz_G Z) o0)), (1, .int a1), (2, .int a2)] 0 []
  unfold f_Ba_hasLink at h
  refine jr_iconst 0 0 C d_Ba_hasLink_0 (by decide) ?_
  refine jr_istore_n 1 [(0, .ref (gz_ad (cz_G Z) o0)), (1, .int a1), (2, .int a2), (3, .int 0)] C d_Ba_hasLink_1 rfl (by decide) rfl ?_
  refine jr_sub [0, 1, 2, 3] rfl ?_
  exact t_Ba_hasLink_2 C 1000 o0 a1 a2 0 ko0 h
abbrev rm_Wa_reach : Room := { frames := 1, cells := 0, slots := 0, locals := 20 }
abbrev cd_Wa_reach : Cond := .code y_Wa_reach b_Wa_reach 5 none
def f_Wa_reach_32 (x1 : Int32) (x2 : Int32) (x4 : Int32) (m : jz_M) : Option (jz_M) :=
  (jz_ix 42 x1).bind fun j1_ =>
  if (m 149 j1_) ≤ x2 then
    (jz_ix 42 x1).bind fun j3_ =>
    if ¬ x2 = (m 149 j3_) then
      some m
    else
      (jz_ix 42 x1).bind fun j5_ =>
      (jz_ix 42 x1).bind fun j6_ =>
      jz_n (jz_up m 150 j6_ ((m 150 j5_) ||| x4)) fun m7_ =>
      some m7_
  else
    (jz_ix 42 x1).bind fun j8_ =>
    jz_n (jz_up m 149 j8_ x2) fun m9_ =>
    (jz_ix 42 x1).bind fun j10_ =>
    jz_n (jz_up m9_ 150 j10_ x4) fun m11_ =>
    some m11_
set_option maxHeartbeats 4000000 in
set_option maxRecDepth 100000 in
theorem t_Wa_reach_32 {Z : cz_Z} {X : jz_X} {r : jz_M} (C : jz_C X 5 b_Wa_reach R_Wa none rm_Wa_reach (cz_G Z)) : ∀ (x1 : Int32) (x2 : Int32) (x4 : Int32) (m : jz_M) , f_Wa_reach_32 x1 x2 x4 m = some r → jz_J X 5 (cz_G Z) (jz_q X (cz_G Z) none r) m [(0, .ref (gz_ad (cz_G Z) 148)), (1, .int x1), (2, .int x2), (4, .int x4)] 32 [] := by
  intro x1 x2 x4 m h
  unfold f_Wa_reach_32 at h
  refine jr_iload_n 32 C d_Wa_reach_32 rfl ?_
  refine jr_aload_n 33 C d_Wa_reach_33 rfl ?_
  refine gf_Wa_9 34 C d_Wa_reach_34 ?_
  refine jr_iload_n 37 C d_Wa_reach_37 rfl ?_
  obtain ⟨j1_, ej1_, h⟩ := jz_b h
  refine jr_iald 38 C d_Wa_reach_38 zk_Wa_costs ej1_ ?_
  refine jr_icmp_ge 39 60 C d_Wa_reach_39 (by decide) (fun c2_ => ?_) (fun c2_ => ?_)
  · have h := jz_t c2_ h
    refine jr_iload_n 60 C d_Wa_reach_60 rfl ?_
    refine jr_aload_n 61 C d_Wa_reach_61 rfl ?_
    refine gf_Wa_9 62 C d_Wa_reach_62 ?_
    refine jr_iload_n 65 C d_Wa_reach_65 rfl ?_
    obtain ⟨j3_, ej3_, h⟩ := jz_b h
    refine jr_iald 66 C d_Wa_reach_66 zk_Wa_costs ej3_ ?_
    refine jr_icmp_ne 67 81 C d_Wa_reach_67 (by decide) (fun c4_ => ?_) (fun c4_ => ?_)
    · have h := jz_t c4_ h
      obtain rfl := Option.some.inj h
      exact jr_vret 81 C d_Wa_reach_81 rfl
    · have h := jz_f c4_ h
      refine jr_aload_n 70 C d_Wa_reach_70 rfl ?_
      refine gf_Wa_15 71 C d_Wa_reach_71 ?_
      refine jr_iload_n 74 C d_Wa_reach_74 rfl ?_
      refine jr_dup2 75 C d_Wa_reach_75 rfl rfl ?_
      obtain ⟨j5_, ej5_, h⟩ := jz_b h
      refine jr_iald 76 C d_Wa_reach_76 zk_Wa_firstHops ej5_ ?_
      refine jr_iload 77 C d_Wa_reach_77 rfl ?_
      refine jr_ior 79 C d_Wa_reach_79 ?_
      obtain ⟨j6_, ej6_, h⟩ := jz_b h
      obtain ⟨m7_, em7_, h⟩ := jz_ne h
      refine jr_iast 80 C d_Wa_reach_80 zk_Wa_firstHops ej6_ ?_
      refine jr_mem em7_ ?_
      obtain rfl := Option.some.inj h
      exact jr_vret 81 C d_Wa_reach_81 rfl
  · have h := jz_f c2_ h
    refine jr_aload_n 42 C d_Wa_reach_42 rfl ?_
    refine gf_Wa_9 43 C d_Wa_reach_43 ?_
    refine jr_iload_n 46 C d_Wa_reach_46 rfl ?_
    refine jr_iload_n 47 C d_Wa_reach_47 rfl ?_
    obtain ⟨j8_, ej8_, h⟩ := jz_b h
    obtain ⟨m9_, em9_, h⟩ := jz_ne h
    refine jr_iast 48 C d_Wa_reach_48 zk_Wa_costs ej8_ ?_
    refine jr_mem em9_ ?_
    refine jr_aload_n 49 C d_Wa_reach_49 rfl ?_
    refine gf_Wa_15 50 C d_Wa_reach_50 ?_
    refine jr_iload_n 53 C d_Wa_reach_53 rfl ?_
    refine jr_iload 54 C d_Wa_reach_54 rfl ?_
    obtain ⟨j10_, ej10_, h⟩ := jz_b h
    obtain ⟨m11_, em11_, h⟩ := jz_ne h
    refine jr_iast 56 C d_Wa_reach_56 zk_Wa_firstHops ej10_ ?_
    refine jr_mem em11_ ?_
    refine jr_goto 57 81 C d_Wa_reach_57 (by decide) ?_
    obtain rfl := Option.some.inj h
    exact jr_vret 81 C d_Wa_reach_81 rfl
def f_Wa_reach (a1 : Int32) (a2 : Int32) (a3 : Int32) (m : jz_M) : Option (jz_M) :=
  (f_AR_partOf a1 m).bind fun v1_ =>
  if ¬ v1_ = 0 then
    f_Wa_reach_32 a1 a2 a3 m
  else
    if (a3 &&& 64) = 0 then
      f_Wa_reach_32 a1 a2 a3 m
    else
      (f_AR_routerOf a1 m).bind fun v4_ =>
      jz_n ((a3 &&& (-65)) ||| ((1 : Int32) <<< (v4_ &&& 31))) fun x5_ =>
      f_Wa_reach_32 a1 a2 x5_ m
set_option maxHeartbeats 4000000 in
set_option maxRecDepth 100000 in
theorem c_Wa_reach {Z : cz_Z} (l : Launch) (hI : jz_I (cz_G Z)) {a1 : Int32} {a2 : Int32} {a3 : Int32} {m : jz_M} {r : jz_M} (h : f_Wa_reach a1 a2 a3 m = some r) : jz_m l y_Wa_reach cd_Wa_reach rm_Wa_reach (cz_G Z) [.ref (gz_ad (cz_G Z) 148), .int a1, .int a2, .int a3] m none r := by
  refine jz_met (own := R_Wa) (by decide) rfl hI (Nat.le_of_ble_eq_true rfl) (fun X hX C => ?_)
  subst hX
  show jz_J X 5 (cz_G Z) _ m [(0, .ref (gz_ad (cz_G Z) 148)), (1, .int a1), (2, .int a2), (3, .int a3)] 0 []
  unfold f_Wa_reach at h
  refine jr_iload_n 0 C d_Wa_reach_0 rfl ?_
  refine jr_istore 1 [(0, .ref (gz_ad (cz_G Z) 148)), (1, .int a1), (2, .int a2), (3, .int a3), (4, .int a3)] C d_Wa_reach_1 rfl (by decide) rfl ?_
  refine jr_iload_n 3 C d_Wa_reach_3 rfl ?_
  obtain ⟨v1_, ev1_, h⟩ := jz_b h
  refine jr_callSN 4 [.int a1] C d_Wa_reach_4 (c_AR_partOf (xz_l X) C.2.2.2.2.2.2.1 ev1_) sz_AR_partOf tz_AR_partOf lk_Wa_31 (by decide) rfl rfl (Nat.le_of_ble_eq_true rfl) rfl ?_
  refine jr_if_ne 7 32 C d_Wa_reach_7 (by decide) (fun c2_ => ?_) (fun c2_ => ?_)
  · have h := jz_t c2_ h
    refine jr_sub [0, 1, 2, 4] rfl ?_
    exact t_Wa_reach_32 C  a1 a2 a3 m h
  · have h := jz_f c2_ h
    refine jr_iload 10 C d_Wa_reach_10 rfl ?_
    refine jr_bipush 12 64 C d_Wa_reach_12 (by decide) ?_
    refine jr_iand 14 C d_Wa_reach_14 ?_
    refine jr_if_eq 15 32 C d_Wa_reach_15 (by decide) (fun c3_ => ?_) (fun c3_ => ?_)
    · have h := jz_t c3_ h
      refine jr_sub [0, 1, 2, 4] rfl ?_
      exact t_Wa_reach_32 C  a1 a2 a3 m h
    · have h := jz_f c3_ h
      refine jr_iload 18 C d_Wa_reach_18 rfl ?_
      refine jr_bipush 20 (-65) C d_Wa_reach_20 (by decide) ?_
      refine jr_iand 22 C d_Wa_reach_22 ?_
      refine jr_iconst 23 1 C d_Wa_reach_23 (by decide) ?_
      refine jr_iload_n 24 C d_Wa_reach_24 rfl ?_
      obtain ⟨v4_, ev4_, h⟩ := jz_b h
      refine jr_callSN 25 [.int a1] C d_Wa_reach_25 (c_AR_routerOf (xz_l X) C.2.2.2.2.2.2.1  ev4_) sz_AR_routerOf tz_AR_routerOf lk_Wa_59 (by decide) rfl rfl (Nat.le_of_ble_eq_true rfl) rfl ?_
      refine jr_ishl 28 C d_Wa_reach_28 ?_
      refine jr_ior 29 C d_Wa_reach_29 ?_
      obtain ⟨x5_, ex5_, h⟩ := jz_ne h
      refine jr_top ex5_ ?_
      refine jr_istore 30 [(0, .ref (gz_ad (cz_G Z) 148)), (1, .int a1), (2, .int a2), (3, .int a3), (4, .int x5_)] C d_Wa_reach_30 rfl (by decide) rfl ?_
      refine jr_sub [0, 1, 2, 4] rfl ?_
      exact t_Wa_reach_32 C  a1 a2 x5_ m h
abbrev rm_Wa_followLinks : Room := { frames := 2, cells := 0, slots := 0, locals := 45 }
abbrev cd_Wa_followLinks : Cond := .code y_Wa_followLinks b_Wa_followLinks 6 none
def f_Wa_followLinks_11 : Nat → Nat → Int32 → Int32 → jz_M → Option (jz_M)
  | 0, _, _, _, _ => none
  | fu + 1, o1, x2, x3, m =>
    (jz_ix 42 x2).bind fun j1_ =>
    if (m (o1 + 7) j1_) ≤ x3 then
      some m
    else
      (f_Ba_linkOf o1 x2 x3 m).bind fun v3_ =>
      jz_n (v3_ - v3_ / 64 * 64) fun x4_ =>
      (f_AR_isName x4_ m).bind fun v5_ =>
      if v5_ = 0 then
        jz_n (x3 + 1) fun x7_ =>
        f_Wa_followLinks_11 fu o1 x2 x7_ m
      else
        (f_Ba_isAlive o1 x4_ m).bind fun v8_ =>
        if v8_ = 0 then
          jz_n (x3 + 1) fun x10_ =>
          f_Wa_followLinks_11 fu o1 x2 x10_ m
        else
          (f_Ba_hasLink o1 x4_ x2 m).bind fun v11_ =>
          if v11_ = 0 then
            jz_n (x3 + 1) fun x13_ =>
            f_Wa_followLinks_11 fu o1 x2 x13_ m
          else
            (jz_ix 42 x2).bind fun j14_ =>
            (jz_ix 42 x2).bind fun j15_ =>
            (f_Wa_reach x4_ ((m 149 j14_) + (v3_ / 64)) (m 150 j15_) m).bind fun v16_ =>
            jz_n (x3 + 1) fun x17_ =>
            f_Wa_followLinks_11 fu o1 x2 x17_ v16_
set_option maxHeartbeats 4000000 in
set_option maxRecDepth 100000 in
theorem t_Wa_followLinks_11 {Z : cz_Z} {X : jz_X} {r : jz_M} (C : jz_C X 6 b_Wa_followLinks R_Wa none rm_Wa_followLinks (cz_G Z)) : ∀ (fu : Nat) (o1 : Nat) (x2 : Int32) (x3 : Int32) (m : jz_M) , kz_Ba o1 → f_Wa_followLinks_11 fu o1 x2 x3 m = some r → jz_J X 6 (cz_G Z) (jz_q X (cz_G Z) none r) m [(0, .ref (gz_ad (cz_G Z) 148)), (1, .ref (gz_ad (cz_G Z) o1)), (2, .int x2), (3, .int x3)] 11 [] := by
  intro fu
  induction fu with
  | zero => intro o1 x2 x3 m k1 h; cases h
  | succ fu ih =>
    intro o1 x2 x3 m k1 h
    rw [f_Wa_followLinks_11] at h
    refine jr_iload_n 11 C d_Wa_followLinks_11 rfl ?_
    refine jr_aload_n 12 C d_Wa_followLinks_12 rfl ?_
    refine gf_Wa_41 13 C d_Wa_followLinks_13 k1 ?_
    refine jr_iload_n 16 C d_Wa_followLinks_16 rfl ?_
    obtain ⟨j1_, ej1_, h⟩ := jz_b h
    refine jr_iald 17 C d_Wa_followLinks_17 (zk_Ba_linkCounts k1) ej1_ ?_
    refine jr_icmp_ge 18 93 C d_Wa_followLinks_18 (by decide) (fun c2_ => ?_) (fun c2_ => ?_)
    · have h := jz_t c2_ h
      obtain rfl := Option.some.inj h
      exact jr_vret 93 C d_Wa_followLinks_93 rfl
    · have h := jz_f c2_ h
      refine jr_aload_n 21 C d_Wa_followLinks_21 rfl ?_
      refine jr_iload_n 22 C d_Wa_followLinks_22 rfl ?_
      refine jr_iload_n 23 C d_Wa_followLinks_23 rfl ?_
      obtain ⟨v3_, ev3_, h⟩ := jz_b h
      refine jr_callVN 24 [.int x2, .int x3] C d_Wa_followLinks_24 (c_Ba_linkOf (xz_l X) C.2.2.2.2.2.2.1 k1 ev3_) sz_Ba_linkOf tz_Ba_linkOf lk_Wa_44 (oz_Ba k1) rfl (by decide) rfl rfl (Nat.le_of_ble_eq_true rfl) rfl ?_
      refine jr_istore 27 [(0, .ref (gz_ad (cz_G Z) 148)), (1, .ref (gz_ad (cz_G Z) o1)), (2, .int x2), (3, .int x3), (4, .int v3_)] C d_Wa_followLinks_27 rfl (by decide) rfl ?_
      refine jr_iload 29 C d_Wa_followLinks_29 rfl ?_
      refine jr_bipush 31 64 C d_Wa_followLinks_31 (by decide) ?_
      refine jr_irem 33 C d_Wa_followLinks_33 (by decide) ?_
      obtain ⟨x4_, ex4_, h⟩ := jz_ne h
      refine jr_top ex4_ ?_
      refine jr_istore 34 [(0, .ref (gz_ad (cz_G Z) 148)), (1, .ref (gz_ad (cz_G Z) o1)), (2, .int x2), (3, .int x3), (4, .int v3_), (5, .int x4_)] C d_Wa_followLinks_34 rfl (by decide) rfl ?_
      refine jr_iload 36 C d_Wa_followLinks_36 rfl ?_
      obtain ⟨v5_, ev5_, h⟩ := jz_b h
      refine jr_callSN 38 [.int x4_] C d_Wa_followLinks_38 (c_AR_isName (xz_l X) C.2.2.2.2.2.2.1  ev5_) sz_AR_isName tz_AR_isName lk_Wa_48 (by decide) rfl rfl (Nat.le_of_ble_eq_true rfl) rfl ?_
      refine jr_if_eq 41 87 C d_Wa_followLinks_41 (by decide) (fun c6_ => ?_) (fun c6_ => ?_)
      · have h := jz_t c6_ h
        obtain ⟨x7_, ex7_, h⟩ := jz_ne h
        refine jr_iinc 87 [(0, .ref (gz_ad (cz_G Z) 148)), (1, .ref (gz_ad (cz_G Z) o1)), (2, .int x2), (3, .int x7_), (4, .int v3_), (5, .int x4_)] C d_Wa_followLinks_87 rfl (by decide) rfl (by rw [ex7_]; rfl) rfl ?_
        refine jr_goto 90 11 C d_Wa_followLinks_90 (by decide) ?_
        refine jr_sub [0, 1, 2, 3] rfl ?_
        exact ih o1 x2 x7_ m k1 h
      · have h := jz_f c6_ h
        refine jr_aload_n 44 C d_Wa_followLinks_44 rfl ?_
        refine jr_iload 45 C d_Wa_followLinks_45 rfl ?_
        obtain ⟨v8_, ev8_, h⟩ := jz_b h
        refine jr_callVN 47 [.int x4_] C d_Wa_followLinks_47 (c_Ba_isAlive (xz_l X) C.2.2.2.2.2.2.1 k1 ev8_) sz_Ba_isAlive tz_Ba_isAlive lk_Wa_35 (oz_Ba k1) rfl (by decide) rfl rfl (Nat.le_of_ble_eq_true rfl) rfl ?_
        refine jr_if_eq 50 87 C d_Wa_followLinks_50 (by decide) (fun c9_ => ?_) (fun c9_ => ?_)
        · have h := jz_t c9_ h
          obtain ⟨x10_, ex10_, h⟩ := jz_ne h
          refine jr_iinc 87 [(0, .ref (gz_ad (cz_G Z) 148)), (1, .ref (gz_ad (cz_G Z) o1)), (2, .int x2), (3, .int x10_), (4, .int v3_), (5, .int x4_)] C d_Wa_followLinks_87 rfl (by decide) rfl (by rw [ex10_]; rfl) rfl ?_
          refine jr_goto 90 11 C d_Wa_followLinks_90 (by decide) ?_
          refine jr_sub [0, 1, 2, 3] rfl ?_
          exact ih o1 x2 x10_ m k1 h
        · have h := jz_f c9_ h
          refine jr_aload_n 53 C d_Wa_followLinks_53 rfl ?_
          refine jr_iload 54 C d_Wa_followLinks_54 rfl ?_
          refine jr_iload_n 56 C d_Wa_followLinks_56 rfl ?_
          obtain ⟨v11_, ev11_, h⟩ := jz_b h
          refine jr_callVN 57 [.int x4_, .int x2] C d_Wa_followLinks_57 (c_Ba_hasLink (xz_l X) C.2.2.2.2.2.2.1 k1 ev11_) sz_Ba_hasLink tz_Ba_hasLink lk_Wa_51 (oz_Ba k1) rfl (by decide) rfl rfl (Nat.le_of_ble_eq_true rfl) rfl ?_
          refine jr_if_eq 60 87 C d_Wa_followLinks_60 (by decide) (fun c12_ => ?_) (fun c12_ => ?_)
          · have h := jz_t c12_ h
            obtain ⟨x13_, ex13_, h⟩ := jz_ne h
            refine jr_iinc 87 [(0, .ref (gz_ad (cz_G Z) 148)), (1, .ref (gz_ad (cz_G Z) o1)), (2, .int x2), (3, .int x13_), (4, .int v3_), (5, .int x4_)] C d_Wa_followLinks_87 rfl (by decide) rfl (by rw [ex13_]; rfl) rfl ?_
            refine jr_goto 90 11 C d_Wa_followLinks_90 (by decide) ?_
            refine jr_sub [0, 1, 2, 3] rfl ?_
            exact ih o1 x2 x13_ m k1 h
          · have h := jz_f c12_ h
            refine jr_aload_n 63 C d_Wa_followLinks_63 rfl ?_
            refine jr_iload 64 C d_Wa_followLinks_64 rfl ?_
            refine jr_aload_n 66 C d_Wa_followLinks_66 rfl ?_
            refine gf_Wa_9 67 C d_Wa_followLinks_67 ?_
            refine jr_iload_n 70 C d_Wa_followLinks_70 rfl ?_
            obtain ⟨j14_, ej14_, h⟩ := jz_b h
            refine jr_iald 71 C d_Wa_followLinks_71 zk_Wa_costs ej14_ ?_
            refine jr_iload 72 C d_Wa_followLinks_72 rfl ?_
            refine jr_bipush 74 64 C d_Wa_followLinks_74 (by decide) ?_
            refine jr_idiv 76 C d_Wa_followLinks_76 (by decide) ?_
            refine jr_iadd 77 C d_Wa_followLinks_77 ?_
            refine jr_aload_n 78 C d_Wa_followLinks_78 rfl ?_
            refine gf_Wa_15 79 C d_Wa_followLinks_79 ?_
            refine jr_iload_n 82 C d_Wa_followLinks_82 rfl ?_
            obtain ⟨j15_, ej15_, h⟩ := jz_b h
            refine jr_iald 83 C d_Wa_followLinks_83 zk_Wa_firstHops ej15_ ?_
            obtain ⟨v16_, ev16_, h⟩ := jz_b h
            refine jr_callV 84 [.int x4_, .int ((m 149 j14_) + (v3_ / 64)), .int (m 150 j15_)] C d_Wa_followLinks_84 (c_Wa_reach (xz_l X) C.2.2.2.2.2.2.1  ev16_) sz_Wa_reach tz_Wa_reach lk_Wa_55 oz_Wa rfl (by decide) rfl rfl (Nat.le_of_ble_eq_true rfl) rfl ?_
            obtain ⟨x17_, ex17_, h⟩ := jz_ne h
            refine jr_iinc 87 [(0, .ref (gz_ad (cz_G Z) 148)), (1, .ref (gz_ad (cz_G Z) o1)), (2, .int x2), (3, .int x17_), (4, .int v3_), (5, .int x4_)] C d_Wa_followLinks_87 rfl (by decide) rfl (by rw [ex17_]; rfl) rfl ?_
            refine jr_goto 90 11 C d_Wa_followLinks_90 (by decide) ?_
            refine jr_sub [0, 1, 2, 3] rfl ?_
            exact ih o1 x2 x17_ v16_ k1 h
def f_Wa_followLinks (o1 : Nat) (a2 : Int32) (m : jz_M) : Option (jz_M) :=
  (f_Ba_isAlive o1 a2 m).bind fun v1_ =>
  if ¬ v1_ = 0 then
    f_Wa_followLinks_11 1000 o1 a2 0 m
  else
    some m
set_option maxHeartbeats 4000000 in
set_option maxRecDepth 100000 in
theorem c_Wa_followLinks {Z : cz_Z} (l : Launch) (hI : jz_I (cz_G Z)) {o1 : Nat} {a2 : Int32} {m : jz_M} {r : jz_M} (ko1 : kz_Ba o1) (h : f_Wa_followLinks o1 a2 m = some r) : jz_m l y_Wa_followLinks cd_Wa_followLinks rm_Wa_followLinks (cz_G Z) [.ref (gz_ad (cz_G Z) 148), .ref (gz_ad (cz_G Z) o1), .int a2] m none r := by
  refine jz_met (own := R_Wa) (by decide) rfl hI (Nat.le_of_ble_eq_true rfl) (fun X hX C => ?_)
  subst hX
  show jz_J X 6 (cz_G Z) _ m [(0, .ref (gz_ad (cz_G Z) 148)), (1, .ref (gz_ad (cz_G Z) o1)), (2, .int a2)] 0 []
  unfold f_Wa_followLinks at h
  refine jr_aload_n 0 C d_Wa_followLinks_0 rfl ?_
  refine jr_iload_n 1 C d_Wa_followLinks_1 rfl ?_
  obtain ⟨v1_, ev1_, h⟩ := jz_b h
  refine jr_callVN 2 [.int a2] C d_Wa_followLinks_2 (c_Ba_isAlive (xz_l X) C.2.2.2.2.2.2.1 ko1 ev1_) sz_Ba_isAlive tz_Ba_isAlive lk_Wa_35 (oz_Ba ko1) rfl (by decide) rfl rfl (Nat.le_of_ble_eq_true rfl) rfl ?_
  refine jr_if_ne 5 9 C d_Wa_followLinks_5 (by decide) (fun c2_ => ?_) (fun c2_ => ?_)
  · have h := jz_t c2_ h
    refine jr_iconst 9 0 C d_Wa_followLinks_9 (by decide) ?_
    refine jr_istore_n 10 [(0, .ref (gz_ad (cz_G Z) 148)), (1, .ref (gz_ad (cz_G Z) o1)), (2, .int a2), (3, .int 0)] C d_Wa_followLinks_10 rfl (by decide) rfl ?_
    refine jr_sub [0, 1, 2, 3] rfl ?_
    exact t_Wa_followLinks_11 C  1000 o1 a2 0 m ko1 h
  · have h := jz_f c2_ h
    obtain rfl := Option.some.inj h
    exact jr_vret 8 C d_Wa_followLinks_8 rfl
abbrev rm_Wa_find : Room := { frames := 3, cells := 0, slots := 0, locals := 70 }
abbrev cd_Wa_find : Cond := .code y_Wa_find b_Wa_find 5 none
def f_Wa_find_53 : Nat → Nat → Int32 → jz_M → Option (jz_M)
  | 0, _, _, _ => none
  | fu + 1, o1, x3, m =>
    if 42 ≤ x3 then
      some m
    else
      (f_Wa_nextToSettle m).bind fun v2_ =>
      if 0 ≤ v2_ then
        (jz_ix 42 v2_).bind fun j4_ =>
        jz_n (jz_up m 151 j4_ (vp_nar .boolean 1)) fun m5_ =>
        (f_Wa_followLinks o1 v2_ m5_).bind fun v6_ =>
        jz_n (x3 + 1) fun x7_ =>
        f_Wa_find_53 fu o1 x7_ v6_
      else
        some m
set_option maxHeartbeats 4000000 in
set_option maxRecDepth 100000 in
theorem t_Wa_find_53 {Z : cz_Z} {X : jz_X} {r : jz_M} (C : jz_C X 5 b_Wa_find R_Wa none rm_Wa_find (cz_G Z)) : ∀ (fu : Nat) (o1 : Nat) (x3 : Int32) (m : jz_M) , kz_Ba o1 → f_Wa_find_53 fu o1 x3 m = some r → jz_J X 5 (cz_G Z) (jz_q X (cz_G Z) none r) m [(0, .ref (gz_ad (cz_G Z) 148)), (1, .ref (gz_ad (cz_G Z) o1)), (3, .int x3)] 53 [] := by
  intro fu
  induction fu with
  | zero => intro o1 x3 m k1 h; cases h
  | succ fu ih =>
    intro o1 x3 m k1 h
    rw [f_Wa_find_53] at h
    refine jr_iload_n 53 C d_Wa_find_53 rfl ?_
    refine jr_bipush 54 42 C d_Wa_find_54 (by decide) ?_
    refine jr_icmp_ge 56 92 C d_Wa_find_56 (by decide) (fun c1_ => ?_) (fun c1_ => ?_)
    · have h := jz_t c1_ h
      obtain rfl := Option.some.inj h
      exact jr_vret 92 C d_Wa_find_92 rfl
    · have h := jz_f c1_ h
      refine jr_aload_n 59 C d_Wa_find_59 rfl ?_
      obtain ⟨v2_, ev2_, h⟩ := jz_b h
      refine jr_callV 60 [] C d_Wa_find_60 (c_Wa_nextToSettle (xz_l X) C.2.2.2.2.2.2.1  ev2_) sz_Wa_nextToSettle tz_Wa_nextToSettle lk_Wa_23 oz_Wa rfl (by decide) rfl rfl (Nat.le_of_ble_eq_true rfl) rfl ?_
      refine jr_istore 63 [(0, .ref (gz_ad (cz_G Z) 148)), (1, .ref (gz_ad (cz_G Z) o1)), (3, .int x3), (4, .int v2_)] C d_Wa_find_63 rfl (by decide) rfl ?_
      refine jr_iload 65 C d_Wa_find_65 rfl ?_
      refine jr_if_ge 67 71 C d_Wa_find_67 (by decide) (fun c3_ => ?_) (fun c3_ => ?_)
      · have h := jz_t c3_ h
        refine jr_aload_n 71 C d_Wa_find_71 rfl ?_
        refine gf_Wa_18 72 C d_Wa_find_72 ?_
        refine jr_iload 75 C d_Wa_find_75 rfl ?_
        refine jr_iconst 77 1 C d_Wa_find_77 (by decide) ?_
        obtain ⟨j4_, ej4_, h⟩ := jz_b h
        obtain ⟨m5_, em5_, h⟩ := jz_ne h
        refine jr_zast 78 C d_Wa_find_78 zk_Wa_settled ej4_ ?_
        refine jr_mem em5_ ?_
        refine jr_aload_n 79 C d_Wa_find_79 rfl ?_
        refine jr_aload_n 80 C d_Wa_find_80 rfl ?_
        refine jr_iload 81 C d_Wa_find_81 rfl ?_
        obtain ⟨v6_, ev6_, h⟩ := jz_b h
        refine jr_callV 83 [.ref (gz_ad (cz_G Z) o1), .int v2_] C d_Wa_find_83 (c_Wa_followLinks (xz_l X) C.2.2.2.2.2.2.1 k1 ev6_) sz_Wa_followLinks tz_Wa_followLinks lk_Wa_27 oz_Wa rfl (by decide) rfl rfl (Nat.le_of_ble_eq_true rfl) rfl ?_
        obtain ⟨x7_, ex7_, h⟩ := jz_ne h
        refine jr_iinc 86 [(0, .ref (gz_ad (cz_G Z) 148)), (1, .ref (gz_ad (cz_G Z) o1)), (3, .int x7_), (4, .int v2_)] C d_Wa_find_86 rfl (by decide) rfl (by rw [ex7_]; rfl) rfl ?_
        refine jr_goto 89 53 C d_Wa_find_89 (by decide) ?_
        refine jr_sub [0, 1, 2] rfl ?_
        exact ih o1 x7_ v6_ k1 h
      · have h := jz_f c3_ h
        obtain rfl := Option.some.inj h
        exact jr_vret 70 C d_Wa_find_70 rfl
def f_Wa_find_2 : Nat → Nat → Int32 → Int32 → jz_M → Option (jz_M)
  | 0, _, _, _, _ => none
  | fu + 1, o1, x2, x3, m =>
    if 42 ≤ x3 then
      (jz_ix 42 x2).bind fun j2_ =>
      jz_n (jz_up m 149 j2_ 0) fun m3_ =>
      (jz_ix 42 x2).bind fun j4_ =>
      jz_n (jz_up m3_ 150 j4_ 64) fun m5_ =>
      f_Wa_find_53 1000 o1 0 m5_
    else
      (jz_ix 42 x3).bind fun j6_ =>
      jz_n (jz_up m 149 j6_ 1000000) fun m7_ =>
      (jz_ix 42 x3).bind fun j8_ =>
      jz_n (jz_up m7_ 150 j8_ 0) fun m9_ =>
      (jz_ix 42 x3).bind fun j10_ =>
      jz_n (jz_up m9_ 151 j10_ (vp_nar .boolean 0)) fun m11_ =>
      jz_n (x3 + 1) fun x12_ =>
      f_Wa_find_2 fu o1 x2 x12_ m11_
set_option maxHeartbeats 4000000 in
set_option maxRecDepth 100000 in
theorem t_Wa_find_2 {Z : cz_Z} {X : jz_X} {r : jz_M} (C : jz_C X 5 b_Wa_find R_Wa none rm_Wa_find (cz_G Z)) : ∀ (fu : Nat) (o1 : Nat) (x2 : Int32) (x3 : Int32) (m : jz_M) , kz_Ba o1 → f_Wa_find_2 fu o1 x2 x3 m = some r → jz_J X 5 (cz_G Z) (jz_q X (cz_G Z) none r) m [(0, .ref (gz_ad (cz_G Z) 148)), (1, .ref (gz_ad (cz_G Z) o1)), (2, .int x2), (3, .int x3)] 2 [] := by
  intro fu
  induction fu with
  | zero => intro o1 x2 x3 m k1 h; cases h
  | succ fu ih =>
    intro o1 x2 x3 m k1 h
    rw [f_Wa_find_2] at h
    refine jr_iload_n 2 C d_Wa_find_2 rfl ?_
    refine jr_bipush 3 42 C d_Wa_find_3 (by decide) ?_
    refine jr_icmp_ge 5 36 C d_Wa_find_5 (by decide) (fun c1_ => ?_) (fun c1_ => ?_)
    · have h := jz_t c1_ h
      refine jr_aload_n 36 C d_Wa_find_36 rfl ?_
      refine gf_Wa_9 37 C d_Wa_find_37 ?_
      refine jr_iload_n 40 C d_Wa_find_40 rfl ?_
      refine jr_iconst 41 0 C d_Wa_find_41 (by decide) ?_
      obtain ⟨j2_, ej2_, h⟩ := jz_b h
      obtain ⟨m3_, em3_, h⟩ := jz_ne h
      refine jr_iast 42 C d_Wa_find_42 zk_Wa_costs ej2_ ?_
      refine jr_mem em3_ ?_
      refine jr_aload_n 43 C d_Wa_find_43 rfl ?_
      refine gf_Wa_15 44 C d_Wa_find_44 ?_
      refine jr_iload_n 47 C d_Wa_find_47 rfl ?_
      refine jr_bipush 48 64 C d_Wa_find_48 (by decide) ?_
      obtain ⟨j4_, ej4_, h⟩ := jz_b h
      obtain ⟨m5_, em5_, h⟩ := jz_ne h
      refine jr_iast 50 C d_Wa_find_50 zk_Wa_firstHops ej4_ ?_
      refine jr_mem em5_ ?_
      refine jr_iconst 51 0 C d_Wa_find_51 (by decide) ?_
      refine jr_istore_n 52 [(0, .ref (gz_ad (cz_G Z) 148)), (1, .ref (gz_ad (cz_G Z) o1)), (2, .int x2), (3, .int 0)] C d_Wa_find_52 rfl (by decide) rfl ?_
      refine jr_sub [0, 1, 3] rfl ?_
      exact t_Wa_find_53 C  1000 o1 0 m5_ k1 h
    · have h := jz_f c1_ h
      refine jr_aload_n 8 C d_Wa_find_8 rfl ?_
      refine gf_Wa_9 9 C d_Wa_find_9 ?_
      refine jr_iload_n 12 C d_Wa_find_12 rfl ?_
      refine jr_ldc 13 1000000 C d_Wa_find_13 lk_Wa_22 ?_
      obtain ⟨j6_, ej6_, h⟩ := jz_b h
      obtain ⟨m7_, em7_, h⟩ := jz_ne h
      refine jr_iast 15 C d_Wa_find_15 zk_Wa_costs ej6_ ?_
      refine jr_mem em7_ ?_
      refine jr_aload_n 16 C d_Wa_find_16 rfl ?_
      refine gf_Wa_15 17 C d_Wa_find_17 ?_
      refine jr_iload_n 20 C d_Wa_find_20 rfl ?_
      refine jr_iconst 21 0 C d_Wa_find_21 (by decide) ?_
      obtain ⟨j8_, ej8_, h⟩ := jz_b h
      obtain ⟨m9_, em9_, h⟩ := jz_ne h
      refine jr_iast 22 C d_Wa_find_22 zk_Wa_firstHops ej8_ ?_
      refine jr_mem em9_ ?_
      refine jr_aload_n 23 C d_Wa_find_23 rfl ?_
      refine gf_Wa_18 24 C d_Wa_find_24 ?_
      refine jr_iload_n 27 C d_Wa_find_27 rfl ?_
      refine jr_iconst 28 0 C d_Wa_find_28 (by decide) ?_
      obtain ⟨j10_, ej10_, h⟩ := jz_b h
      obtain ⟨m11_, em11_, h⟩ := jz_ne h
      refine jr_zast 29 C d_Wa_find_29 zk_Wa_settled ej10_ ?_
      refine jr_mem em11_ ?_
      obtain ⟨x12_, ex12_, h⟩ := jz_ne h
      refine jr_iinc 30 [(0, .ref (gz_ad (cz_G Z) 148)), (1, .ref (gz_ad (cz_G Z) o1)), (2, .int x2), (3, .int x12_)] C d_Wa_find_30 rfl (by decide) rfl (by rw [ex12_]; rfl) rfl ?_
      refine jr_goto 33 2 C d_Wa_find_33 (by decide) ?_
      refine jr_sub [0, 1, 2, 3] rfl ?_
      exact ih o1 x2 x12_ m11_ k1 h
def f_Wa_find (o1 : Nat) (a2 : Int32) (m : jz_M) : Option (jz_M) :=
  f_Wa_find_2 1000 o1 a2 0 m
set_option maxHeartbeats 4000000 in
set_option maxRecDepth 100000 in
theorem c_Wa_find {Z : cz_Z} (l : Launch) (hI : jz_I (cz_G Z)) {o1 : Nat} {a2 : Int32} {m : jz_M} {r : jz_M} (ko1 : kz_Ba o1) (h : f_Wa_find o1 a2 m = some r) : jz_m l y_Wa_find cd_Wa_find rm_Wa_find (cz_G Z) [.ref (gz_ad (cz_G Z) 148), .ref (gz_ad (cz_G Z) o1), .int a2] m none r := by
  refine jz_met (own := R_Wa) (by decide) rfl hI (Nat.le_of_ble_eq_true rfl) (fun X hX C => ?_)
  subst hX
  show jz_J X 5 (cz_G Z) _ m [(0, .ref (gz_ad (cz_G Z) 148)), (1, .ref (gz_ad (cz_G Z) o1)), (2, .int a2)] 0 []
  unfold f_Wa_find at h
  refine jr_iconst 0 0 C d_Wa_find_0 (by decide) ?_
  refine jr_istore_n 1 [(0, .ref (gz_ad (cz_G Z) 148)), (1, .ref (gz_ad (cz_G Z) o1)), (2, .int a2), (3, .int 0)] C d_Wa_find_1 rfl (by decide) rfl ?_
  refine jr_sub [0, 1, 2, 3] rfl ?_
  exact t_Wa_find_2 C 1000 o1 a2 0 m ko1 h
abbrev rm_Wa_wayTo : Room := { frames := 1, cells := 0, slots := 0, locals := 21 }
abbrev cd_Wa_wayTo : Cond := .code y_Wa_wayTo b_Wa_wayTo 4 (some .int)
def f_Wa_wayTo_37 (m : jz_M) : Nat → Int32 → Int32 → Int32 → Option (Int32)
  | 0, _, _, _ => none
  | fu + 1, x1, x2, x3 =>
    if 6 ≤ x3 then
      some (-1)
    else
      if ((x2 >>> (x3 &&& 31)) &&& 1) = 0 then
        jz_n (x3 + 1) fun x3_ =>
        f_Wa_wayTo_37 m fu x1 x2 x3_
      else
        (f_AR_nameOf x1 0 m).bind fun v4_ =>
        (jz_ix 42 v4_).bind fun j5_ =>
        some (x3 + ((8 : Int32) * (m 149 j5_)))
set_option maxHeartbeats 4000000 in
set_option maxRecDepth 100000 in
theorem t_Wa_wayTo_37 {Z : cz_Z} {X : jz_X} {m : jz_M} {r : Int32} (C : jz_C X 4 b_Wa_wayTo R_Wa (some .int) rm_Wa_wayTo (cz_G Z)) : ∀ (fu : Nat) (x1 : Int32) (x2 : Int32) (x3 : Int32) , f_Wa_wayTo_37 m fu x1 x2 x3 = some r → jz_J X 4 (cz_G Z) (jz_q X (cz_G Z) (some (.int r)) m) m [(0, .ref (gz_ad (cz_G Z) 148)), (1, .int x1), (2, .int x2), (3, .int x3)] 37 [] := by
  intro fu
  induction fu with
  | zero => intro x1 x2 x3 h; cases h
  | succ fu ih =>
    intro x1 x2 x3 h
    rw [f_Wa_wayTo_37] at h
    refine jr_iload_n 37 C d_Wa_wayTo_37 rfl ?_
    refine jr_bipush 38 6 C d_Wa_wayTo_38 (by decide) ?_
    refine jr_icmp_ge 40 73 C d_Wa_wayTo_40 (by decide) (fun c1_ => ?_) (fun c1_ => ?_)
    · have h := jz_t c1_ h
      refine jr_iconst 73 (-1) C d_Wa_wayTo_73 (by decide) ?_
      obtain rfl := Option.some.inj h
      exact jr_iret 74 (v := (-1)) C d_Wa_wayTo_74 rfl
    · have h := jz_f c1_ h
      refine jr_iload_n 43 C d_Wa_wayTo_43 rfl ?_
      refine jr_iload_n 44 C d_Wa_wayTo_44 rfl ?_
      refine jr_ishr 45 C d_Wa_wayTo_45 ?_
      refine jr_iconst 46 1 C d_Wa_wayTo_46 (by decide) ?_
      refine jr_iand 47 C d_Wa_wayTo_47 ?_
      refine jr_if_eq 48 67 C d_Wa_wayTo_48 (by decide) (fun c2_ => ?_) (fun c2_ => ?_)
      · have h := jz_t c2_ h
        obtain ⟨x3_, ex3_, h⟩ := jz_ne h
        refine jr_iinc 67 [(0, .ref (gz_ad (cz_G Z) 148)), (1, .int x1), (2, .int x2), (3, .int x3_)] C d_Wa_wayTo_67 rfl (by decide) rfl (by rw [ex3_]; rfl) rfl ?_
        refine jr_goto 70 37 C d_Wa_wayTo_70 (by decide) ?_
        refine jr_sub [0, 1, 2, 3] rfl ?_
        exact ih x1 x2 x3_  h
      · have h := jz_f c2_ h
        refine jr_iload_n 51 C d_Wa_wayTo_51 rfl ?_
        refine jr_bipush 52 8 C d_Wa_wayTo_52 (by decide) ?_
        refine jr_aload_n 54 C d_Wa_wayTo_54 rfl ?_
        refine gf_Wa_9 55 C d_Wa_wayTo_55 ?_
        refine jr_iload_n 58 C d_Wa_wayTo_58 rfl ?_
        refine jr_iconst 59 0 C d_Wa_wayTo_59 (by decide) ?_
        obtain ⟨v4_, ev4_, h⟩ := jz_b h
        refine jr_callSN 60 [.int x1, .int 0] C d_Wa_wayTo_60 (c_AR_nameOf (xz_l X) C.2.2.2.2.2.2.1  ev4_) sz_AR_nameOf tz_AR_nameOf lk_Wa_65 (by decide) rfl rfl (Nat.le_of_ble_eq_true rfl) rfl ?_
        obtain ⟨j5_, ej5_, h⟩ := jz_b h
        refine jr_iald 63 C d_Wa_wayTo_63 zk_Wa_costs ej5_ ?_
        refine jr_imul 64 C d_Wa_wayTo_64 ?_
        refine jr_iadd 65 C d_Wa_wayTo_65 ?_
        obtain rfl := Option.some.inj h
        exact jr_iret 66 (v := (x3 + ((8 : Int32) * (m 149 j5_)))) C d_Wa_wayTo_66 rfl
def f_Wa_wayTo (a1 : Int32) (m : jz_M) : Option (Int32) :=
  (f_AR_isRouter a1 m).bind fun v1_ =>
  if v1_ = 0 then
    some (-1)
  else
    (f_AR_nameOf a1 0 m).bind fun v3_ =>
    (jz_ix 42 v3_).bind fun j4_ =>
    if (m 149 j4_) < 1000000 then
      (f_AR_nameOf a1 0 m).bind fun v6_ =>
      (jz_ix 42 v6_).bind fun j7_ =>
      jz_n (m 150 j7_) fun x8_ =>
      f_Wa_wayTo_37 m 1000 a1 x8_ 0
    else
      some (-1)
set_option maxHeartbeats 4000000 in
set_option maxRecDepth 100000 in
theorem c_Wa_wayTo {Z : cz_Z} (l : Launch) (hI : jz_I (cz_G Z)) {a1 : Int32} {m : jz_M} {r : Int32} (h : f_Wa_wayTo a1 m = some r) : jz_m l y_Wa_wayTo cd_Wa_wayTo rm_Wa_wayTo (cz_G Z) [.ref (gz_ad (cz_G Z) 148), .int a1] m (some (.int r)) m := by
  refine jz_met (own := R_Wa) (by decide) rfl hI (Nat.le_of_ble_eq_true rfl) (fun X hX C => ?_)
  subst hX
  show jz_J X 4 (cz_G Z) _ m [(0, .ref (gz_ad (cz_G Z) 148)), (1, .int a1)] 0 []
  unfold f_Wa_wayTo at h
  refine jr_iload_n 0 C d_Wa_wayTo_0 rfl ?_
  obtain ⟨v1_, ev1_, h⟩ := jz_b h
  refine jr_callSN 1 [.int a1] C d_Wa_wayTo_1 (c_AR_isRouter (xz_l X) C.2.2.2.2.2.2.1 ev1_) sz_AR_isRouter tz_AR_isRouter lk_Wa_62 (by decide) rfl rfl (Nat.le_of_ble_eq_true rfl) rfl ?_
  refine jr_if_eq 4 22 C d_Wa_wayTo_4 (by decide) (fun c2_ => ?_) (fun c2_ => ?_)
  · have h := jz_t c2_ h
    refine jr_iconst 22 (-1) C d_Wa_wayTo_22 (by decide) ?_
    obtain rfl := Option.some.inj h
    exact jr_iret 23 (v := (-1)) C d_Wa_wayTo_23 rfl
  · have h := jz_f c2_ h
    refine jr_aload_n 7 C d_Wa_wayTo_7 rfl ?_
    refine gf_Wa_9 8 C d_Wa_wayTo_8 ?_
    refine jr_iload_n 11 C d_Wa_wayTo_11 rfl ?_
    refine jr_iconst 12 0 C d_Wa_wayTo_12 (by decide) ?_
    obtain ⟨v3_, ev3_, h⟩ := jz_b h
    refine jr_callSN 13 [.int a1, .int 0] C d_Wa_wayTo_13 (c_AR_nameOf (xz_l X) C.2.2.2.2.2.2.1  ev3_) sz_AR_nameOf tz_AR_nameOf lk_Wa_65 (by decide) rfl rfl (Nat.le_of_ble_eq_true rfl) rfl ?_
    obtain ⟨j4_, ej4_, h⟩ := jz_b h
    refine jr_iald 16 C d_Wa_wayTo_16 zk_Wa_costs ej4_ ?_
    refine jr_ldc 17 1000000 C d_Wa_wayTo_17 lk_Wa_22 ?_
    refine jr_icmp_lt 19 24 C d_Wa_wayTo_19 (by decide) (fun c5_ => ?_) (fun c5_ => ?_)
    · have h := jz_t c5_ h
      refine jr_aload_n 24 C d_Wa_wayTo_24 rfl ?_
      refine gf_Wa_15 25 C d_Wa_wayTo_25 ?_
      refine jr_iload_n 28 C d_Wa_wayTo_28 rfl ?_
      refine jr_iconst 29 0 C d_Wa_wayTo_29 (by decide) ?_
      obtain ⟨v6_, ev6_, h⟩ := jz_b h
      refine jr_callSN 30 [.int a1, .int 0] C d_Wa_wayTo_30 (c_AR_nameOf (xz_l X) C.2.2.2.2.2.2.1  ev6_) sz_AR_nameOf tz_AR_nameOf lk_Wa_65 (by decide) rfl rfl (Nat.le_of_ble_eq_true rfl) rfl ?_
      obtain ⟨j7_, ej7_, h⟩ := jz_b h
      refine jr_iald 33 C d_Wa_wayTo_33 zk_Wa_firstHops ej7_ ?_
      obtain ⟨x8_, ex8_, h⟩ := jz_ne h
      refine jr_top ex8_ ?_
      refine jr_istore_n 34 [(0, .ref (gz_ad (cz_G Z) 148)), (1, .int a1), (2, .int x8_)] C d_Wa_wayTo_34 rfl (by decide) rfl ?_
      refine jr_iconst 35 0 C d_Wa_wayTo_35 (by decide) ?_
      refine jr_istore_n 36 [(0, .ref (gz_ad (cz_G Z) 148)), (1, .int a1), (2, .int x8_), (3, .int 0)] C d_Wa_wayTo_36 rfl (by decide) rfl ?_
      refine jr_sub [0, 1, 2, 3] rfl ?_
      exact t_Wa_wayTo_37 C  1000 a1 x8_ 0 h
    · have h := jz_f c5_ h
      refine jr_iconst 22 (-1) C d_Wa_wayTo_22 (by decide) ?_
      obtain rfl := Option.some.inj h
      exact jr_iret 23 (v := (-1)) C d_Wa_wayTo_23 rfl
abbrev rm_Wa_nearer : Room := { frames := 1, cells := 0, slots := 0, locals := 21 }
abbrev cd_Wa_nearer : Cond := .code y_Wa_nearer b_Wa_nearer 4 (some .int)
def f_Wa_nearer_22 (m : jz_M) (x1 : Int32) (x2 : Int32) (s0 : Int32) : Option (Int32) :=
  (f_AR_nameOf x2 0 m).bind fun v1_ =>
  (jz_ix 42 v1_).bind fun j2_ =>
  if s0 ≤ (m 149 j2_) then
    some x1
  else
    some x2
set_option maxHeartbeats 4000000 in
set_option maxRecDepth 100000 in
theorem t_Wa_nearer_22 {Z : cz_Z} {X : jz_X} {m : jz_M} {r : Int32} (C : jz_C X 4 b_Wa_nearer R_Wa (some .int) rm_Wa_nearer (cz_G Z)) : ∀ (x1 : Int32) (x2 : Int32) (s0 : Int32) , f_Wa_nearer_22 m x1 x2 s0 = some r → jz_J X 4 (cz_G Z) (jz_q X (cz_G Z) (some (.int r)) m) m [(0, .ref (gz_ad (cz_G Z) 148)), (1, .int x1), (2, .int x2)] 22 [.int s0] := by
  intro x1 x2 s0 h
  unfold f_Wa_nearer_22 at h
  refine jr_istore_n 22 [(0, .ref (gz_ad (cz_G Z) 148)), (1, .int x1), (2, .int x2), (3, .int s0)] C d_Wa_nearer_22 rfl (by decide) rfl ?_
  refine jr_aload_n 23 C d_Wa_nearer_23 rfl ?_
  refine gf_Wa_9 24 C d_Wa_nearer_24 ?_
  refine jr_iload_n 27 C d_Wa_nearer_27 rfl ?_
  refine jr_iconst 28 0 C d_Wa_nearer_28 (by decide) ?_
  obtain ⟨v1_, ev1_, h⟩ := jz_b h
  refine jr_callSN 29 [.int x2, .int 0] C d_Wa_nearer_29 (c_AR_nameOf (xz_l X) C.2.2.2.2.2.2.1 ev1_) sz_AR_nameOf tz_AR_nameOf lk_Wa_65 (by decide) rfl rfl (Nat.le_of_ble_eq_true rfl) rfl ?_
  obtain ⟨j2_, ej2_, h⟩ := jz_b h
  refine jr_iald 32 C d_Wa_nearer_32 zk_Wa_costs ej2_ ?_
  refine jr_iload_n 33 C d_Wa_nearer_33 rfl ?_
  refine jr_icmp_ge 34 41 C d_Wa_nearer_34 (by decide) (fun c3_ => ?_) (fun c3_ => ?_)
  · have h := jz_t c3_ h
    refine jr_iload_n 41 C d_Wa_nearer_41 rfl ?_
    obtain rfl := Option.some.inj h
    exact jr_iret 42 (v := x1) C d_Wa_nearer_42 rfl
  · have h := jz_f c3_ h
    refine jr_iload_n 37 C d_Wa_nearer_37 rfl ?_
    refine jr_goto 38 42 C d_Wa_nearer_38 (by decide) ?_
    obtain rfl := Option.some.inj h
    exact jr_iret 42 (v := x2) C d_Wa_nearer_42 rfl
def f_Wa_nearer (a1 : Int32) (a2 : Int32) (m : jz_M) : Option (Int32) :=
  (f_AR_isRouter a1 m).bind fun v1_ =>
  if v1_ = 0 then
    f_Wa_nearer_22 m a1 a2 1000000
  else
    (f_AR_nameOf a1 0 m).bind fun v3_ =>
    (jz_ix 42 v3_).bind fun j4_ =>
    f_Wa_nearer_22 m a1 a2 (m 149 j4_)
set_option maxHeartbeats 4000000 in
set_option maxRecDepth 100000 in
theorem c_Wa_nearer {Z : cz_Z} (l : Launch) (hI : jz_I (cz_G Z)) {a1 : Int32} {a2 : Int32} {m : jz_M} {r : Int32} (h : f_Wa_nearer a1 a2 m = some r) : jz_m l y_Wa_nearer cd_Wa_nearer rm_Wa_nearer (cz_G Z) [.ref (gz_ad (cz_G Z) 148), .int a1, .int a2] m (some (.int r)) m := by
  refine jz_met (own := R_Wa) (by decide) rfl hI (Nat.le_of_ble_eq_true rfl) (fun X hX C => ?_)
  subst hX
  show jz_J X 4 (cz_G Z) _ m [(0, .ref (gz_ad (cz_G Z) 148)), (1, .int a1), (2, .int a2)] 0 []
  unfold f_Wa_nearer at h
  refine jr_iload_n 0 C d_Wa_nearer_0 rfl ?_
  obtain ⟨v1_, ev1_, h⟩ := jz_b h
  refine jr_callSN 1 [.int a1] C d_Wa_nearer_1 (c_AR_isRouter (xz_l X) C.2.2.2.2.2.2.1 ev1_) sz_AR_isRouter tz_AR_isRouter lk_Wa_62 (by decide) rfl rfl (Nat.le_of_ble_eq_true rfl) rfl ?_
  refine jr_if_eq 4 20 C d_Wa_nearer_4 (by decide) (fun c2_ => ?_) (fun c2_ => ?_)
  · have h := jz_t c2_ h
    refine jr_ldc 20 1000000 C d_Wa_nearer_20 lk_Wa_22 ?_
    refine jr_sub [0, 1, 2] rfl ?_
    exact t_Wa_nearer_22 C  a1 a2 1000000 h
  · have h := jz_f c2_ h
    refine jr_aload_n 7 C d_Wa_nearer_7 rfl ?_
    refine gf_Wa_9 8 C d_Wa_nearer_8 ?_
    refine jr_iload_n 11 C d_Wa_nearer_11 rfl ?_
    refine jr_iconst 12 0 C d_Wa_nearer_12 (by decide) ?_
    obtain ⟨v3_, ev3_, h⟩ := jz_b h
    refine jr_callSN 13 [.int a1, .int 0] C d_Wa_nearer_13 (c_AR_nameOf (xz_l X) C.2.2.2.2.2.2.1  ev3_) sz_AR_nameOf tz_AR_nameOf lk_Wa_65 (by decide) rfl rfl (Nat.le_of_ble_eq_true rfl) rfl ?_
    obtain ⟨j4_, ej4_, h⟩ := jz_b h
    refine jr_iald 16 C d_Wa_nearer_16 zk_Wa_costs ej4_ ?_
    refine jr_goto 17 22 C d_Wa_nearer_17 (by decide) ?_
    refine jr_sub [0, 1, 2] rfl ?_
    exact t_Wa_nearer_22 C  a1 a2 (m 149 j4_) h
abbrev rm_AR_wayToArea : Room := { frames := 4, cells := 0, slots := 0, locals := 94 }
abbrev cd_AR_wayToArea : Cond := .code y_AR_wayToArea b_AR_wayToArea 6 (some .int)
def f_AR_wayToArea_26 : Nat → Int32 → Int32 → Nat → Int32 → Int32 → jz_M → Option (Int32 × jz_M)
  | 0, _, _, _, _, _, _ => none
  | fu + 1, x1, x2, o3, x4, x5, m =>
    if 6 ≤ x5 then
      (f_Wa_wayTo x4 m).bind fun v2_ =>
      some (v2_, m)
    else
      if x5 = x1 then
        jz_n (x5 + 1) fun x4_ =>
        f_AR_wayToArea_26 fu x1 x2 o3 x4 x4_ m
      else
        (f_AR_nameOf x5 0 m).bind fun v5_ =>
        (jz_ix 42 v5_).bind fun j6_ =>
        if ¬ (m (o3 + 6) j6_) = x2 then
          jz_n (x5 + 1) fun x8_ =>
          f_AR_wayToArea_26 fu x1 x2 o3 x4 x8_ m
        else
          (f_Wa_nearer x4 x5 m).bind fun v9_ =>
          jz_n (x5 + 1) fun x10_ =>
          f_AR_wayToArea_26 fu x1 x2 o3 v9_ x10_ m
set_option maxHeartbeats 4000000 in
set_option maxRecDepth 100000 in
theorem t_AR_wayToArea_26 {Z : cz_Z} {X : jz_X} {r : Int32 × jz_M} (C : jz_C X 6 b_AR_wayToArea R_AR (some .int) rm_AR_wayToArea (cz_G Z)) : ∀ (fu : Nat) (x1 : Int32) (x2 : Int32) (o3 : Nat) (x4 : Int32) (x5 : Int32) (m : jz_M) , kz_Ba o3 → f_AR_wayToArea_26 fu x1 x2 o3 x4 x5 m = some r → jz_J X 6 (cz_G Z) (jz_q X (cz_G Z) (some (.int r.1)) r.2) m [(0, .ref (gz_ad (cz_G Z) 0)), (1, .int x1), (2, .int x2), (3, .ref (gz_ad (cz_G Z) o3)), (4, .int x4), (5, .int x5)] 26 [] := by
  intro fu
  induction fu with
  | zero => intro x1 x2 o3 x4 x5 m k3 h; cases h
  | succ fu ih =>
    intro x1 x2 o3 x4 x5 m k3 h
    rw [f_AR_wayToArea_26] at h
    refine jr_iload 26 C d_AR_wayToArea_26 rfl ?_
    refine jr_bipush 28 6 C d_AR_wayToArea_28 (by decide) ?_
    refine jr_icmp_ge 30 73 C d_AR_wayToArea_30 (by decide) (fun c1_ => ?_) (fun c1_ => ?_)
    · have h := jz_t c1_ h
      refine jr_aload_n 73 C d_AR_wayToArea_73 rfl ?_
      refine gf_AR_47 74 C d_AR_wayToArea_74 ?_
      refine jr_iload 77 C d_AR_wayToArea_77 rfl ?_
      obtain ⟨v2_, ev2_, h⟩ := jz_b h
      refine jr_callVN 79 [.int x4] C d_AR_wayToArea_79 (c_Wa_wayTo (xz_l X) C.2.2.2.2.2.2.1  ev2_) sz_Wa_wayTo tz_Wa_wayTo lk_AR_266 oz_Wa rfl (by decide) rfl rfl (Nat.le_of_ble_eq_true rfl) rfl ?_
      obtain rfl := Option.some.inj h
      exact jr_iret 82 (v := v2_) C d_AR_wayToArea_82 rfl
    · have h := jz_f c1_ h
      refine jr_iload 33 C d_AR_wayToArea_33 rfl ?_
      refine jr_iload_n 35 C d_AR_wayToArea_35 rfl ?_
      refine jr_icmp_eq 36 67 C d_AR_wayToArea_36 (by decide) (fun c3_ => ?_) (fun c3_ => ?_)
      · have h := jz_t c3_ h
        obtain ⟨x4_, ex4_, h⟩ := jz_ne h
        refine jr_iinc 67 [(0, .ref (gz_ad (cz_G Z) 0)), (1, .int x1), (2, .int x2), (3, .ref (gz_ad (cz_G Z) o3)), (4, .int x4), (5, .int x4_)] C d_AR_wayToArea_67 rfl (by decide) rfl (by rw [ex4_]; rfl) rfl ?_
        refine jr_goto 70 26 C d_AR_wayToArea_70 (by decide) ?_
        refine jr_sub [0, 1, 2, 3, 4, 5] rfl ?_
        exact ih x1 x2 o3 x4 x4_ m k3 h
      · have h := jz_f c3_ h
        refine jr_aload_n 39 C d_AR_wayToArea_39 rfl ?_
        refine gf_AR_275 40 C d_AR_wayToArea_40 k3 ?_
        refine jr_iload 43 C d_AR_wayToArea_43 rfl ?_
        refine jr_iconst 45 0 C d_AR_wayToArea_45 (by decide) ?_
        obtain ⟨v5_, ev5_, h⟩ := jz_b h
        refine jr_callS 46 [.int x5, .int 0] C d_AR_wayToArea_46 (c_AR_nameOf (xz_l X) C.2.2.2.2.2.2.1  ev5_) sz_AR_nameOf tz_AR_nameOf lk_AR_215 (by decide) rfl rfl (Nat.le_of_ble_eq_true rfl) rfl ?_
        obtain ⟨j6_, ej6_, h⟩ := jz_b h
        refine jr_iald 49 C d_AR_wayToArea_49 (zk_Ba_areas k3) ej6_ ?_
        refine jr_iload_n 50 C d_AR_wayToArea_50 rfl ?_
        refine jr_icmp_ne 51 67 C d_AR_wayToArea_51 (by decide) (fun c7_ => ?_) (fun c7_ => ?_)
        · have h := jz_t c7_ h
          obtain ⟨x8_, ex8_, h⟩ := jz_ne h
          refine jr_iinc 67 [(0, .ref (gz_ad (cz_G Z) 0)), (1, .int x1), (2, .int x2), (3, .ref (gz_ad (cz_G Z) o3)), (4, .int x4), (5, .int x8_)] C d_AR_wayToArea_67 rfl (by decide) rfl (by rw [ex8_]; rfl) rfl ?_
          refine jr_goto 70 26 C d_AR_wayToArea_70 (by decide) ?_
          refine jr_sub [0, 1, 2, 3, 4, 5] rfl ?_
          exact ih x1 x2 o3 x4 x8_ m k3 h
        · have h := jz_f c7_ h
          refine jr_aload_n 54 C d_AR_wayToArea_54 rfl ?_
          refine gf_AR_47 55 C d_AR_wayToArea_55 ?_
          refine jr_iload 58 C d_AR_wayToArea_58 rfl ?_
          refine jr_iload 60 C d_AR_wayToArea_60 rfl ?_
          obtain ⟨v9_, ev9_, h⟩ := jz_b h
          refine jr_callVN 62 [.int x4, .int x5] C d_AR_wayToArea_62 (c_Wa_nearer (xz_l X) C.2.2.2.2.2.2.1  ev9_) sz_Wa_nearer tz_Wa_nearer lk_AR_276 oz_Wa rfl (by decide) rfl rfl (Nat.le_of_ble_eq_true rfl) rfl ?_
          refine jr_istore 65 [(0, .ref (gz_ad (cz_G Z) 0)), (1, .int x1), (2, .int x2), (3, .ref (gz_ad (cz_G Z) o3)), (4, .int v9_), (5, .int x5)] C d_AR_wayToArea_65 rfl (by decide) rfl ?_
          obtain ⟨x10_, ex10_, h⟩ := jz_ne h
          refine jr_iinc 67 [(0, .ref (gz_ad (cz_G Z) 0)), (1, .int x1), (2, .int x2), (3, .ref (gz_ad (cz_G Z) o3)), (4, .int v9_), (5, .int x10_)] C d_AR_wayToArea_67 rfl (by decide) rfl (by rw [ex10_]; rfl) rfl ?_
          refine jr_goto 70 26 C d_AR_wayToArea_70 (by decide) ?_
          refine jr_sub [0, 1, 2, 3, 4, 5] rfl ?_
          exact ih x1 x2 o3 v9_ x10_ m k3 h
def f_AR_wayToArea (a1 : Int32) (a2 : Int32) (m : jz_M) : Option (Int32 × jz_M) :=
  (f_AR_baseOf a1 2 m).bind fun v1_ =>
  (f_AR_nameOf a1 0 m).bind fun v2_ =>
  (f_Wa_find v1_ v2_ m).bind fun v3_ =>
  f_AR_wayToArea_26 1000 a1 a2 v1_ (-1) 0 v3_
set_option maxHeartbeats 4000000 in
set_option maxRecDepth 100000 in
theorem c_AR_wayToArea {Z : cz_Z} (l : Launch) (hI : jz_I (cz_G Z)) {a1 : Int32} {a2 : Int32} {m : jz_M} {r : Int32 × jz_M} (h : f_AR_wayToArea a1 a2 m = some r) : jz_m l y_AR_wayToArea cd_AR_wayToArea rm_AR_wayToArea (cz_G Z) [.ref (gz_ad (cz_G Z) 0), .int a1, .int a2] m (some (.int r.1)) r.2 := by
  refine jz_met (own := R_AR) (by decide) rfl hI (Nat.le_of_ble_eq_true rfl) (fun X hX C => ?_)
  subst hX
  show jz_J X 6 (cz_G Z) _ m [(0, .ref (gz_ad (cz_G Z) 0)), (1, .int a1), (2, .int a2)] 0 []
  unfold f_AR_wayToArea at h
  refine jr_aload_n 0 C d_AR_wayToArea_0 rfl ?_
  refine jr_iload_n 1 C d_AR_wayToArea_1 rfl ?_
  refine jr_iconst 2 2 C d_AR_wayToArea_2 (by decide) ?_
  obtain ⟨v1_, ev1_, h⟩ := jz_b h
  refine jr_callV 3 [.int a1, .int 2] C d_AR_wayToArea_3 (c_AR_baseOf (xz_l X) C.2.2.2.2.2.2.1 ev1_) sz_AR_baseOf tz_AR_baseOf lk_AR_87 oz_AR rfl (by decide) rfl rfl (Nat.le_of_ble_eq_true rfl) rfl ?_
  refine jr_astore_n 6 [(0, .ref (gz_ad (cz_G Z) 0)), (1, .int a1), (2, .int a2), (3, .ref (gz_ad (cz_G Z) v1_))] C d_AR_wayToArea_6 rfl (by decide) rfl ?_
  refine jr_aload_n 7 C d_AR_wayToArea_7 rfl ?_
  refine gf_AR_47 8 C d_AR_wayToArea_8 ?_
  refine jr_aload_n 11 C d_AR_wayToArea_11 rfl ?_
  refine jr_iload_n 12 C d_AR_wayToArea_12 rfl ?_
  refine jr_iconst 13 0 C d_AR_wayToArea_13 (by decide) ?_
  obtain ⟨v2_, ev2_, h⟩ := jz_b h
  refine jr_callS 14 [.int a1, .int 0] C d_AR_wayToArea_14 (c_AR_nameOf (xz_l X) C.2.2.2.2.2.2.1 ev2_) sz_AR_nameOf tz_AR_nameOf lk_AR_215 (by decide) rfl rfl (Nat.le_of_ble_eq_true rfl) rfl ?_
  obtain ⟨v3_, ev3_, h⟩ := jz_b h
  refine jr_callVN 17 [.ref (gz_ad (cz_G Z) v1_), .int v2_] C d_AR_wayToArea_17 (c_Wa_find (xz_l X) C.2.2.2.2.2.2.1 (kr_AR_baseOf ev1_) ev3_) sz_Wa_find tz_Wa_find lk_AR_263 oz_Wa rfl (by decide) rfl rfl (Nat.le_of_ble_eq_true rfl) rfl ?_
  refine jr_iconst 20 (-1) C d_AR_wayToArea_20 (by decide) ?_
  refine jr_istore 21 [(0, .ref (gz_ad (cz_G Z) 0)), (1, .int a1), (2, .int a2), (3, .ref (gz_ad (cz_G Z) v1_)), (4, .int (-1))] C d_AR_wayToArea_21 rfl (by decide) rfl ?_
  refine jr_iconst 23 0 C d_AR_wayToArea_23 (by decide) ?_
  refine jr_istore 24 [(0, .ref (gz_ad (cz_G Z) 0)), (1, .int a1), (2, .int a2), (3, .ref (gz_ad (cz_G Z) v1_)), (4, .int (-1)), (5, .int 0)] C d_AR_wayToArea_24 rfl (by decide) rfl ?_
  refine jr_sub [0, 1, 2, 3, 4, 5] rfl ?_
  exact t_AR_wayToArea_26 C 1000 a1 a2 v1_ (-1) 0 v3_ (kr_AR_baseOf ev1_) h
end
section
abbrev rm_AR_wayToExit : Room := { frames := 4, cells := 0, slots := 0, locals := 94 }
abbrev cd_AR_wayToExit : Cond := .code y_AR_wayToExit b_AR_wayToExit 5 (some .int)
def f_AR_wayToExit_25 : Nat → Int32 → Nat → Int32 → Int32 → jz_M → Option (Int32 × jz_M)
  | 0, _, _, _, _, _ => none
  | fu + 1, x1, o2, x3, x4, m =>
    if 6 ≤ x4 then
      (f_Wa_wayTo x3 m).bind fun v2_ =>
      some (v2_, m)
    else
      if x4 = x1 then
        jz_n (x4 + 1) fun x4_ =>
        f_AR_wayToExit_25 fu x1 o2 x3 x4_ m
      else
        (f_AR_nameOf x4 0 m).bind fun v5_ =>
        (jz_ix 42 v5_).bind fun j6_ =>
        if (m (o2 + 5) j6_) = 0 then
          jz_n (x4 + 1) fun x8_ =>
          f_AR_wayToExit_25 fu x1 o2 x3 x8_ m
        else
          (f_Wa_nearer x3 x4 m).bind fun v9_ =>
          jz_n (x4 + 1) fun x10_ =>
          f_AR_wayToExit_25 fu x1 o2 v9_ x10_ m
set_option maxHeartbeats 4000000 in
set_option maxRecDepth 100000 in
theorem t_AR_wayToExit_25 {Z : cz_Z} {X : jz_X} {r : Int32 × jz_M} (C : jz_C X 5 b_AR_wayToExit R_AR (some .int) rm_AR_wayToExit (cz_G Z)) : ∀ (fu : Nat) (x1 : Int32) (o2 : Nat) (x3 : Int32) (x4 : Int32) (m : jz_M) , kz_Ba o2 → f_AR_wayToExit_25 fu x1 o2 x3 x4 m = some r → jz_J X 5 (cz_G Z) (jz_q X (cz_G Z) (some (.int r.1)) r.2) m [(0, .ref (gz_ad (cz_G Z) 0)), (1, .int x1), (2, .ref (gz_ad (cz_G Z) o2)), (3, .int x3), (4, .int x4)] 25 [] := by
  intro fu
  induction fu with
  | zero => intro x1 o2 x3 x4 m k2 h; cases h
  | succ fu ih =>
    intro x1 o2 x3 x4 m k2 h
    rw [f_AR_wayToExit_25] at h
    refine jr_iload 25 C d_AR_wayToExit_25 rfl ?_
    refine jr_bipush 27 6 C d_AR_wayToExit_27 (by decide) ?_
    refine jr_icmp_ge 29 69 C d_AR_wayToExit_29 (by decide) (fun c1_ => ?_) (fun c1_ => ?_)
    · have h := jz_t c1_ h
      refine jr_aload_n 69 C d_AR_wayToExit_69 rfl ?_
      refine gf_AR_47 70 C d_AR_wayToExit_70 ?_
      refine jr_iload_n 73 C d_AR_wayToExit_73 rfl ?_
      obtain ⟨v2_, ev2_, h⟩ := jz_b h
      refine jr_callVN 74 [.int x3] C d_AR_wayToExit_74 (c_Wa_wayTo (xz_l X) C.2.2.2.2.2.2.1  ev2_) sz_Wa_wayTo tz_Wa_wayTo lk_AR_266 oz_Wa rfl (by decide) rfl rfl (Nat.le_of_ble_eq_true rfl) rfl ?_
      obtain rfl := Option.some.inj h
      exact jr_iret 77 (v := v2_) C d_AR_wayToExit_77 rfl
    · have h := jz_f c1_ h
      refine jr_iload 32 C d_AR_wayToExit_32 rfl ?_
      refine jr_iload_n 34 C d_AR_wayToExit_34 rfl ?_
      refine jr_icmp_eq 35 63 C d_AR_wayToExit_35 (by decide) (fun c3_ => ?_) (fun c3_ => ?_)
      · have h := jz_t c3_ h
        obtain ⟨x4_, ex4_, h⟩ := jz_ne h
        refine jr_iinc 63 [(0, .ref (gz_ad (cz_G Z) 0)), (1, .int x1), (2, .ref (gz_ad (cz_G Z) o2)), (3, .int x3), (4, .int x4_)] C d_AR_wayToExit_63 rfl (by decide) rfl (by rw [ex4_]; rfl) rfl ?_
        refine jr_goto 66 25 C d_AR_wayToExit_66 (by decide) ?_
        refine jr_sub [0, 1, 2, 3, 4] rfl ?_
        exact ih x1 o2 x3 x4_ m k2 h
      · have h := jz_f c3_ h
        refine jr_aload_n 38 C d_AR_wayToExit_38 rfl ?_
        refine gf_AR_279 39 C d_AR_wayToExit_39 k2 ?_
        refine jr_iload 42 C d_AR_wayToExit_42 rfl ?_
        refine jr_iconst 44 0 C d_AR_wayToExit_44 (by decide) ?_
        obtain ⟨v5_, ev5_, h⟩ := jz_b h
        refine jr_callS 45 [.int x4, .int 0] C d_AR_wayToExit_45 (c_AR_nameOf (xz_l X) C.2.2.2.2.2.2.1  ev5_) sz_AR_nameOf tz_AR_nameOf lk_AR_215 (by decide) rfl rfl (Nat.le_of_ble_eq_true rfl) rfl ?_
        obtain ⟨j6_, ej6_, h⟩ := jz_b h
        refine jr_zald 48 C d_AR_wayToExit_48 (zk_Ba_exits k2) ej6_ ?_
        refine jr_if_eq 49 63 C d_AR_wayToExit_49 (by decide) (fun c7_ => ?_) (fun c7_ => ?_)
        · have h := jz_t c7_ h
          obtain ⟨x8_, ex8_, h⟩ := jz_ne h
          refine jr_iinc 63 [(0, .ref (gz_ad (cz_G Z) 0)), (1, .int x1), (2, .ref (gz_ad (cz_G Z) o2)), (3, .int x3), (4, .int x8_)] C d_AR_wayToExit_63 rfl (by decide) rfl (by rw [ex8_]; rfl) rfl ?_
          refine jr_goto 66 25 C d_AR_wayToExit_66 (by decide) ?_
          refine jr_sub [0, 1, 2, 3, 4] rfl ?_
          exact ih x1 o2 x3 x8_ m k2 h
        · have h := jz_f c7_ h
          refine jr_aload_n 52 C d_AR_wayToExit_52 rfl ?_
          refine gf_AR_47 53 C d_AR_wayToExit_53 ?_
          refine jr_iload_n 56 C d_AR_wayToExit_56 rfl ?_
          refine jr_iload 57 C d_AR_wayToExit_57 rfl ?_
          obtain ⟨v9_, ev9_, h⟩ := jz_b h
          refine jr_callVN 59 [.int x3, .int x4] C d_AR_wayToExit_59 (c_Wa_nearer (xz_l X) C.2.2.2.2.2.2.1  ev9_) sz_Wa_nearer tz_Wa_nearer lk_AR_276 oz_Wa rfl (by decide) rfl rfl (Nat.le_of_ble_eq_true rfl) rfl ?_
          refine jr_istore_n 62 [(0, .ref (gz_ad (cz_G Z) 0)), (1, .int x1), (2, .ref (gz_ad (cz_G Z) o2)), (3, .int v9_), (4, .int x4)] C d_AR_wayToExit_62 rfl (by decide) rfl ?_
          obtain ⟨x10_, ex10_, h⟩ := jz_ne h
          refine jr_iinc 63 [(0, .ref (gz_ad (cz_G Z) 0)), (1, .int x1), (2, .ref (gz_ad (cz_G Z) o2)), (3, .int v9_), (4, .int x10_)] C d_AR_wayToExit_63 rfl (by decide) rfl (by rw [ex10_]; rfl) rfl ?_
          refine jr_goto 66 25 C d_AR_wayToExit_66 (by decide) ?_
          refine jr_sub [0, 1, 2, 3, 4] rfl ?_
          exact ih x1 o2 v9_ x10_ m k2 h
def f_AR_wayToExit (a1 : Int32) (m : jz_M) : Option (Int32 × jz_M) :=
  (f_AR_baseOf a1 1 m).bind fun v1_ =>
  (f_AR_nameOf a1 0 m).bind fun v2_ =>
  (f_Wa_find v1_ v2_ m).bind fun v3_ =>
  f_AR_wayToExit_25 1000 a1 v1_ (-1) 0 v3_
set_option maxHeartbeats 4000000 in
set_option maxRecDepth 100000 in
theorem c_AR_wayToExit {Z : cz_Z} (l : Launch) (hI : jz_I (cz_G Z)) {a1 : Int32} {m : jz_M} {r : Int32 × jz_M} (h : f_AR_wayToExit a1 m = some r) : jz_m l y_AR_wayToExit cd_AR_wayToExit rm_AR_wayToExit (cz_G Z) [.ref (gz_ad (cz_G Z) 0), .int a1] m (some (.int r.1)) r.2 := by
  refine jz_met (own := R_AR) (by decide) rfl hI (Nat.le_of_ble_eq_true rfl) (fun X hX C => ?_)
  subst hX
  show jz_J X 5 (cz_G Z) _ m [(0, .ref (gz_ad (cz_G Z) 0)), (1, .int a1)] 0 []
  unfold f_AR_wayToExit at h
  refine jr_aload_n 0 C d_AR_wayToExit_0 rfl ?_
  refine jr_iload_n 1 C d_AR_wayToExit_1 rfl ?_
  refine jr_iconst 2 1 C d_AR_wayToExit_2 (by decide) ?_
  obtain ⟨v1_, ev1_, h⟩ := jz_b h
  refine jr_callV 3 [.int a1, .int 1] C d_AR_wayToExit_3 (c_AR_baseOf (xz_l X) C.2.2.2.2.2.2.1 ev1_) sz_AR_baseOf tz_AR_baseOf lk_AR_87 oz_AR rfl (by decide) rfl rfl (Nat.le_of_ble_eq_true rfl) rfl ?_
  refine jr_astore_n 6 [(0, .ref (gz_ad (cz_G Z) 0)), (1, .int a1), (2, .ref (gz_ad (cz_G Z) v1_))] C d_AR_wayToExit_6 rfl (by decide) rfl ?_
  refine jr_aload_n 7 C d_AR_wayToExit_7 rfl ?_
  refine gf_AR_47 8 C d_AR_wayToExit_8 ?_
  refine jr_aload_n 11 C d_AR_wayToExit_11 rfl ?_
  refine jr_iload_n 12 C d_AR_wayToExit_12 rfl ?_
  refine jr_iconst 13 0 C d_AR_wayToExit_13 (by decide) ?_
  obtain ⟨v2_, ev2_, h⟩ := jz_b h
  refine jr_callS 14 [.int a1, .int 0] C d_AR_wayToExit_14 (c_AR_nameOf (xz_l X) C.2.2.2.2.2.2.1 ev2_) sz_AR_nameOf tz_AR_nameOf lk_AR_215 (by decide) rfl rfl (Nat.le_of_ble_eq_true rfl) rfl ?_
  obtain ⟨v3_, ev3_, h⟩ := jz_b h
  refine jr_callVN 17 [.ref (gz_ad (cz_G Z) v1_), .int v2_] C d_AR_wayToExit_17 (c_Wa_find (xz_l X) C.2.2.2.2.2.2.1 (kr_AR_baseOf ev1_) ev3_) sz_Wa_find tz_Wa_find lk_AR_263 oz_Wa rfl (by decide) rfl rfl (Nat.le_of_ble_eq_true rfl) rfl ?_
  refine jr_iconst 20 (-1) C d_AR_wayToExit_20 (by decide) ?_
  refine jr_istore_n 21 [(0, .ref (gz_ad (cz_G Z) 0)), (1, .int a1), (2, .ref (gz_ad (cz_G Z) v1_)), (3, .int (-1))] C d_AR_wayToExit_21 rfl (by decide) rfl ?_
  refine jr_iconst 22 0 C d_AR_wayToExit_22 (by decide) ?_
  refine jr_istore 23 [(0, .ref (gz_ad (cz_G Z) 0)), (1, .int a1), (2, .ref (gz_ad (cz_G Z) v1_)), (3, .int (-1)), (4, .int 0)] C d_AR_wayToExit_23 rfl (by decide) rfl ?_
  refine jr_sub [0, 1, 2, 3, 4] rfl ?_
  exact t_AR_wayToExit_25 C 1000 a1 v1_ (-1) 0 v3_ (kr_AR_baseOf ev1_) h
abbrev rm_AR_wayFrom : Room := { frames := 5, cells := 0, slots := 0, locals := 119 }
abbrev cd_AR_wayFrom : Cond := .code y_AR_wayFrom b_AR_wayFrom 4 (some .int)
def f_AR_wayFrom_57 (x1 : Int32) (x2 : Int32) (m : jz_M) : Option (Int32 × jz_M) :=
  (f_AR_hasLevel x1 2 m).bind fun v1_ =>
  if v1_ = 0 then
    (f_AR_wayToExit x1 m).bind fun v3_ =>
    some (v3_.1, v3_.2)
  else
    (jz_ix 6 x2).bind fun j4_ =>
    (f_AR_wayToArea x1 (m 1 j4_) m).bind fun v5_ =>
    some (v5_.1, v5_.2)
set_option maxHeartbeats 4000000 in
set_option maxRecDepth 100000 in
theorem t_AR_wayFrom_57 {Z : cz_Z} {X : jz_X} {r : Int32 × jz_M} (C : jz_C X 4 b_AR_wayFrom R_AR (some .int) rm_AR_wayFrom (cz_G Z)) : ∀ (x1 : Int32) (x2 : Int32) (m : jz_M) , f_AR_wayFrom_57 x1 x2 m = some r → jz_J X 4 (cz_G Z) (jz_q X (cz_G Z) (some (.int r.1)) r.2) m [(0, .ref (gz_ad (cz_G Z) 0)), (1, .int x1), (2, .int x2)] 57 [] := by
  intro x1 x2 m h
  unfold f_AR_wayFrom_57 at h
  refine jr_aload_n 57 C d_AR_wayFrom_57 rfl ?_
  refine jr_iload_n 58 C d_AR_wayFrom_58 rfl ?_
  refine jr_iconst 59 2 C d_AR_wayFrom_59 (by decide) ?_
  obtain ⟨v1_, ev1_, h⟩ := jz_b h
  refine jr_callV 60 [.int x1, .int 2] C d_AR_wayFrom_60 (c_AR_hasLevel (xz_l X) C.2.2.2.2.2.2.1 ev1_) sz_AR_hasLevel tz_AR_hasLevel lk_AR_134 oz_AR rfl (by decide) rfl rfl (Nat.le_of_ble_eq_true rfl) rfl ?_
  refine jr_if_eq 63 80 C d_AR_wayFrom_63 (by decide) (fun c2_ => ?_) (fun c2_ => ?_)
  · have h := jz_t c2_ h
    refine jr_aload_n 80 C d_AR_wayFrom_80 rfl ?_
    refine jr_iload_n 81 C d_AR_wayFrom_81 rfl ?_
    obtain ⟨v3_, ev3_, h⟩ := jz_b h
    refine jr_callV 82 [.int x1] C d_AR_wayFrom_82 (c_AR_wayToExit (xz_l X) C.2.2.2.2.2.2.1  ev3_) sz_AR_wayToExit tz_AR_wayToExit lk_AR_272 oz_AR rfl (by decide) rfl rfl (Nat.le_of_ble_eq_true rfl) rfl ?_
    obtain rfl := Option.some.inj h
    exact jr_iret 85 (v := v3_.1) C d_AR_wayFrom_85 rfl
  · have h := jz_f c2_ h
    refine jr_aload_n 66 C d_AR_wayFrom_66 rfl ?_
    refine jr_iload_n 67 C d_AR_wayFrom_67 rfl ?_
    refine jr_aload_n 68 C d_AR_wayFrom_68 rfl ?_
    refine gf_AR_9 69 C d_AR_wayFrom_69 ?_
    refine jr_iload_n 72 C d_AR_wayFrom_72 rfl ?_
    obtain ⟨j4_, ej4_, h⟩ := jz_b h
    refine jr_iald 73 C d_AR_wayFrom_73 zk_AR_areas ej4_ ?_
    obtain ⟨v5_, ev5_, h⟩ := jz_b h
    refine jr_callV 74 [.int x1, .int (m 1 j4_)] C d_AR_wayFrom_74 (c_AR_wayToArea (xz_l X) C.2.2.2.2.2.2.1  ev5_) sz_AR_wayToArea tz_AR_wayToArea lk_AR_269 oz_AR rfl (by decide) rfl rfl (Nat.le_of_ble_eq_true rfl) rfl ?_
    refine jr_goto 77 85 C d_AR_wayFrom_77 (by decide) ?_
    obtain rfl := Option.some.inj h
    exact jr_iret 85 (v := v5_.1) C d_AR_wayFrom_85 rfl
def f_AR_wayFrom (a1 : Int32) (a2 : Int32) (m : jz_M) : Option (Int32 × jz_M) :=
  (f_AR_hasLevel a1 1 m).bind fun v1_ =>
  if v1_ = 0 then
    f_AR_wayFrom_57 a1 a2 m
  else
    (jz_ix 6 a1).bind fun j3_ =>
    (jz_ix 6 a2).bind fun j4_ =>
    if ¬ (m 1 j3_) = (m 1 j4_) then
      f_AR_wayFrom_57 a1 a2 m
    else
      (f_AR_baseOf a1 1 m).bind fun v6_ =>
      (f_AR_nameOf a1 0 m).bind fun v7_ =>
      (f_Wa_find v6_ v7_ m).bind fun v8_ =>
      (f_Wa_wayTo a2 v8_).bind fun v9_ =>
      if v9_ < 0 then
        f_AR_wayFrom_57 a1 a2 v8_
      else
        some (v9_, v8_)
set_option maxHeartbeats 4000000 in
set_option maxRecDepth 100000 in
theorem c_AR_wayFrom {Z : cz_Z} (l : Launch) (hI : jz_I (cz_G Z)) {a1 : Int32} {a2 : Int32} {m : jz_M} {r : Int32 × jz_M} (h : f_AR_wayFrom a1 a2 m = some r) : jz_m l y_AR_wayFrom cd_AR_wayFrom rm_AR_wayFrom (cz_G Z) [.ref (gz_ad (cz_G Z) 0), .int a1, .int a2] m (some (.int r.1)) r.2 := by
  refine jz_met (own := R_AR) (by decide) rfl hI (Nat.le_of_ble_eq_true rfl) (fun X hX C => ?_)
  subst hX
  show jz_J X 4 (cz_G Z) _ m [(0, .ref (gz_ad (cz_G Z) 0)), (1, .int a1), (2, .int a2)] 0 []
  unfold f_AR_wayFrom at h
  refine jr_aload_n 0 C d_AR_wayFrom_0 rfl ?_
  refine jr_iload_n 1 C d_AR_wayFrom_1 rfl ?_
  refine jr_iconst 2 1 C d_AR_wayFrom_2 (by decide) ?_
  obtain ⟨v1_, ev1_, h⟩ := jz_b h
  refine jr_callV 3 [.int a1, .int 1] C d_AR_wayFrom_3 (c_AR_hasLevel (xz_l X) C.2.2.2.2.2.2.1 ev1_) sz_AR_hasLevel tz_AR_hasLevel lk_AR_134 oz_AR rfl (by decide) rfl rfl (Nat.le_of_ble_eq_true rfl) rfl ?_
  refine jr_if_eq 6 57 C d_AR_wayFrom_6 (by decide) (fun c2_ => ?_) (fun c2_ => ?_)
  · have h := jz_t c2_ h
    refine jr_sub [0, 1, 2] rfl ?_
    exact t_AR_wayFrom_57 C  a1 a2 m h
  · have h := jz_f c2_ h
    refine jr_aload_n 9 C d_AR_wayFrom_9 rfl ?_
    refine gf_AR_9 10 C d_AR_wayFrom_10 ?_
    refine jr_iload_n 13 C d_AR_wayFrom_13 rfl ?_
    obtain ⟨j3_, ej3_, h⟩ := jz_b h
    refine jr_iald 14 C d_AR_wayFrom_14 zk_AR_areas ej3_ ?_
    refine jr_aload_n 15 C d_AR_wayFrom_15 rfl ?_
    refine gf_AR_9 16 C d_AR_wayFrom_16 ?_
    refine jr_iload_n 19 C d_AR_wayFrom_19 rfl ?_
    obtain ⟨j4_, ej4_, h⟩ := jz_b h
    refine jr_iald 20 C d_AR_wayFrom_20 zk_AR_areas ej4_ ?_
    refine jr_icmp_ne 21 57 C d_AR_wayFrom_21 (by decide) (fun c5_ => ?_) (fun c5_ => ?_)
    · have h := jz_t c5_ h
      refine jr_sub [0, 1, 2] rfl ?_
      exact t_AR_wayFrom_57 C  a1 a2 m h
    · have h := jz_f c5_ h
      refine jr_aload_n 24 C d_AR_wayFrom_24 rfl ?_
      refine gf_AR_47 25 C d_AR_wayFrom_25 ?_
      refine jr_aload_n 28 C d_AR_wayFrom_28 rfl ?_
      refine jr_iload_n 29 C d_AR_wayFrom_29 rfl ?_
      refine jr_iconst 30 1 C d_AR_wayFrom_30 (by decide) ?_
      obtain ⟨v6_, ev6_, h⟩ := jz_b h
      refine jr_callV 31 [.int a1, .int 1] C d_AR_wayFrom_31 (c_AR_baseOf (xz_l X) C.2.2.2.2.2.2.1  ev6_) sz_AR_baseOf tz_AR_baseOf lk_AR_87 oz_AR rfl (by decide) rfl rfl (Nat.le_of_ble_eq_true rfl) rfl ?_
      refine jr_iload_n 34 C d_AR_wayFrom_34 rfl ?_
      refine jr_iconst 35 0 C d_AR_wayFrom_35 (by decide) ?_
      obtain ⟨v7_, ev7_, h⟩ := jz_b h
      refine jr_callS 36 [.int a1, .int 0] C d_AR_wayFrom_36 (c_AR_nameOf (xz_l X) C.2.2.2.2.2.2.1  ev7_) sz_AR_nameOf tz_AR_nameOf lk_AR_215 (by decide) rfl rfl (Nat.le_of_ble_eq_true rfl) rfl ?_
      obtain ⟨v8_, ev8_, h⟩ := jz_b h
      refine jr_callVN 39 [.ref (gz_ad (cz_G Z) v6_), .int v7_] C d_AR_wayFrom_39 (c_Wa_find (xz_l X) C.2.2.2.2.2.2.1 (kr_AR_baseOf ev6_) ev8_) sz_Wa_find tz_Wa_find lk_AR_263 oz_Wa rfl (by decide) rfl rfl (Nat.le_of_ble_eq_true rfl) rfl ?_
      refine jr_aload_n 42 C d_AR_wayFrom_42 rfl ?_
      refine gf_AR_47 43 C d_AR_wayFrom_43 ?_
      refine jr_iload_n 46 C d_AR_wayFrom_46 rfl ?_
      obtain ⟨v9_, ev9_, h⟩ := jz_b h
      refine jr_callVN 47 [.int a2] C d_AR_wayFrom_47 (c_Wa_wayTo (xz_l X) C.2.2.2.2.2.2.1  ev9_) sz_Wa_wayTo tz_Wa_wayTo lk_AR_266 oz_Wa rfl (by decide) rfl rfl (Nat.le_of_ble_eq_true rfl) rfl ?_
      refine jr_istore_n 50 [(0, .ref (gz_ad (cz_G Z) 0)), (1, .int a1), (2, .int a2), (3, .int v9_)] C d_AR_wayFrom_50 rfl (by decide) rfl ?_
      refine jr_iload_n 51 C d_AR_wayFrom_51 rfl ?_
      refine jr_if_lt 52 57 C d_AR_wayFrom_52 (by decide) (fun c10_ => ?_) (fun c10_ => ?_)
      · have h := jz_t c10_ h
        refine jr_sub [0, 1, 2] rfl ?_
        exact t_AR_wayFrom_57 C  a1 a2 v8_ h
      · have h := jz_f c10_ h
        refine jr_iload_n 55 C d_AR_wayFrom_55 rfl ?_
        obtain rfl := Option.some.inj h
        exact jr_iret 56 (v := v9_) C d_AR_wayFrom_56 rfl
abbrev rm_AR_route : Room := { frames := 6, cells := 0, slots := 0, locals := 142 }
abbrev cd_AR_route : Cond := .code y_AR_route b_AR_route 3 (some .int)
def f_AR_route (a1 : Int32) (a2 : Int32) (m : jz_M) : Option (Int32 × jz_M) :=
  (f_AR_isRouter a1 m).bind fun v1_ =>
  if v1_ = 0 then
    some ((-1), m)
  else
    (f_AR_isRouter a2 m).bind fun v3_ =>
    if v3_ = 0 then
      some ((-1), m)
    else
      if ¬ a1 = a2 then
        (f_AR_wayFrom a1 a2 m).bind fun v6_ =>
        some (v6_.1, v6_.2)
      else
        some ((-1), m)
set_option maxHeartbeats 4000000 in
set_option maxRecDepth 100000 in
theorem c_AR_route {Z : cz_Z} (l : Launch) (hI : jz_I (cz_G Z)) {a1 : Int32} {a2 : Int32} {m : jz_M} {r : Int32 × jz_M} (h : f_AR_route a1 a2 m = some r) : jz_m l y_AR_route cd_AR_route rm_AR_route (cz_G Z) [.ref (gz_ad (cz_G Z) 0), .int a1, .int a2] m (some (.int r.1)) r.2 := by
  refine jz_met (own := R_AR) (by decide) rfl hI (Nat.le_of_ble_eq_true rfl) (fun X hX C => ?_)
  subst hX
  show jz_J X 3 (cz_G Z) _ m [(0, .ref (gz_ad (cz_G Z) 0)), (1, .int a1), (2, .int a2)] 0 []
  unfold f_AR_route at h
  refine jr_iload_n 0 C d_AR_route_0 rfl ?_
  obtain ⟨v1_, ev1_, h⟩ := jz_b h
  refine jr_callS 1 [.int a1] C d_AR_route_1 (c_AR_isRouter (xz_l X) C.2.2.2.2.2.2.1 ev1_) sz_AR_isRouter tz_AR_isRouter lk_AR_51 (by decide) rfl rfl (Nat.le_of_ble_eq_true rfl) rfl ?_
  refine jr_if_eq 4 19 C d_AR_route_4 (by decide) (fun c2_ => ?_) (fun c2_ => ?_)
  · have h := jz_t c2_ h
    refine jr_iconst 19 (-1) C d_AR_route_19 (by decide) ?_
    obtain rfl := Option.some.inj h
    exact jr_iret 20 (v := (-1)) C d_AR_route_20 rfl
  · have h := jz_f c2_ h
    refine jr_iload_n 7 C d_AR_route_7 rfl ?_
    obtain ⟨v3_, ev3_, h⟩ := jz_b h
    refine jr_callS 8 [.int a2] C d_AR_route_8 (c_AR_isRouter (xz_l X) C.2.2.2.2.2.2.1  ev3_) sz_AR_isRouter tz_AR_isRouter lk_AR_51 (by decide) rfl rfl (Nat.le_of_ble_eq_true rfl) rfl ?_
    refine jr_if_eq 11 19 C d_AR_route_11 (by decide) (fun c4_ => ?_) (fun c4_ => ?_)
    · have h := jz_t c4_ h
      refine jr_iconst 19 (-1) C d_AR_route_19 (by decide) ?_
      obtain rfl := Option.some.inj h
      exact jr_iret 20 (v := (-1)) C d_AR_route_20 rfl
    · have h := jz_f c4_ h
      refine jr_iload_n 14 C d_AR_route_14 rfl ?_
      refine jr_iload_n 15 C d_AR_route_15 rfl ?_
      refine jr_icmp_ne 16 21 C d_AR_route_16 (by decide) (fun c5_ => ?_) (fun c5_ => ?_)
      · have h := jz_t c5_ h
        refine jr_aload_n 21 C d_AR_route_21 rfl ?_
        refine jr_iload_n 22 C d_AR_route_22 rfl ?_
        refine jr_iload_n 23 C d_AR_route_23 rfl ?_
        obtain ⟨v6_, ev6_, h⟩ := jz_b h
        refine jr_callV 24 [.int a1, .int a2] C d_AR_route_24 (c_AR_wayFrom (xz_l X) C.2.2.2.2.2.2.1  ev6_) sz_AR_wayFrom tz_AR_wayFrom lk_AR_171 oz_AR rfl (by decide) rfl rfl (Nat.le_of_ble_eq_true rfl) rfl ?_
        obtain rfl := Option.some.inj h
        exact jr_iret 27 (v := v6_.1) C d_AR_route_27 rfl
      · have h := jz_f c5_ h
        refine jr_iconst 19 (-1) C d_AR_route_19 (by decide) ?_
        obtain rfl := Option.some.inj h
        exact jr_iret 20 (v := (-1)) C d_AR_route_20 rfl
abbrev rm_AR_trace : Room := { frames := 6, cells := 0, slots := 0, locals := 142 }
abbrev cd_AR_trace : Cond := .code y_AR_trace b_AR_trace 6 (some .int)
def f_AR_trace_21 : Nat → Int32 → Int32 → Int32 → jz_M → Option (Int32 × jz_M)
  | 0, _, _, _, _ => none
  | fu + 1, x2, x3, x4, m =>
    if 10 < x4 then
      some ((-1), m)
    else
      if ¬ x3 = x2 then
        (f_AR_wayFrom x3 x2 m).bind fun v3_ =>
        jz_n v3_.1 fun x4_ =>
        if 0 ≤ x4_ then
          jz_n (x4_ - x4_ / 8 * 8) fun x6_ =>
          jz_n (x4 + 1) fun x7_ =>
          f_AR_trace_21 fu x2 x6_ x7_ v3_.2
        else
          some ((-1), v3_.2)
      else
        some (x4, m)
set_option maxHeartbeats 4000000 in
set_option maxRecDepth 100000 in
theorem t_AR_trace_21 {Z : cz_Z} {X : jz_X} {r : Int32 × jz_M} (C : jz_C X 6 b_AR_trace R_AR (some .int) rm_AR_trace (cz_G Z)) : ∀ (fu : Nat) (x2 : Int32) (x3 : Int32) (x4 : Int32) (m : jz_M) , f_AR_trace_21 fu x2 x3 x4 m = some r → jz_J X 6 (cz_G Z) (jz_q X (cz_G Z) (some (.int r.1)) r.2) m [(0, .ref (gz_ad (cz_G Z) 0)), (2, .int x2), (3, .int x3), (4, .int x4)] 21 [] := by
  intro fu
  induction fu with
  | zero => intro x2 x3 x4 m h; cases h
  | succ fu ih =>
    intro x2 x3 x4 m h
    rw [f_AR_trace_21] at h
    refine jr_iload 21 C d_AR_trace_21 rfl ?_
    refine jr_bipush 23 10 C d_AR_trace_23 (by decide) ?_
    refine jr_icmp_gt 25 63 C d_AR_trace_25 (by decide) (fun c1_ => ?_) (fun c1_ => ?_)
    · have h := jz_t c1_ h
      refine jr_iconst 63 (-1) C d_AR_trace_63 (by decide) ?_
      obtain rfl := Option.some.inj h
      exact jr_iret 64 (v := (-1)) C d_AR_trace_64 rfl
    · have h := jz_f c1_ h
      refine jr_iload_n 28 C d_AR_trace_28 rfl ?_
      refine jr_iload_n 29 C d_AR_trace_29 rfl ?_
      refine jr_icmp_ne 30 36 C d_AR_trace_30 (by decide) (fun c2_ => ?_) (fun c2_ => ?_)
      · have h := jz_t c2_ h
        refine jr_aload_n 36 C d_AR_trace_36 rfl ?_
        refine jr_iload_n 37 C d_AR_trace_37 rfl ?_
        refine jr_iload_n 38 C d_AR_trace_38 rfl ?_
        obtain ⟨v3_, ev3_, h⟩ := jz_b h
        refine jr_callV 39 [.int x3, .int x2] C d_AR_trace_39 (c_AR_wayFrom (xz_l X) C.2.2.2.2.2.2.1  ev3_) sz_AR_wayFrom tz_AR_wayFrom lk_AR_171 oz_AR rfl (by decide) rfl rfl (Nat.le_of_ble_eq_true rfl) rfl ?_
        obtain ⟨x4_, ex4_, h⟩ := jz_ne h
        refine jr_top ex4_ ?_
        refine jr_istore 42 [(0, .ref (gz_ad (cz_G Z) 0)), (2, .int x2), (3, .int x3), (4, .int x4), (5, .int x4_)] C d_AR_trace_42 rfl (by decide) rfl ?_
        refine jr_iload 44 C d_AR_trace_44 rfl ?_
        refine jr_if_ge 46 51 C d_AR_trace_46 (by decide) (fun c5_ => ?_) (fun c5_ => ?_)
        · have h := jz_t c5_ h
          refine jr_iload 51 C d_AR_trace_51 rfl ?_
          refine jr_bipush 53 8 C d_AR_trace_53 (by decide) ?_
          refine jr_irem 55 C d_AR_trace_55 (by decide) ?_
          obtain ⟨x6_, ex6_, h⟩ := jz_ne h
          refine jr_top ex6_ ?_
          refine jr_istore_n 56 [(0, .ref (gz_ad (cz_G Z) 0)), (2, .int x2), (3, .int x6_), (4, .int x4), (5, .int x4_)] C d_AR_trace_56 rfl (by decide) rfl ?_
          obtain ⟨x7_, ex7_, h⟩ := jz_ne h
          refine jr_iinc 57 [(0, .ref (gz_ad (cz_G Z) 0)), (2, .int x2), (3, .int x6_), (4, .int x7_), (5, .int x4_)] C d_AR_trace_57 rfl (by decide) rfl (by rw [ex7_]; rfl) rfl ?_
          refine jr_goto 60 21 C d_AR_trace_60 (by decide) ?_
          refine jr_sub [0, 1, 2, 3] rfl ?_
          exact ih x2 x6_ x7_ v3_.2  h
        · have h := jz_f c5_ h
          refine jr_iconst 49 (-1) C d_AR_trace_49 (by decide) ?_
          obtain rfl := Option.some.inj h
          exact jr_iret 50 (v := (-1)) C d_AR_trace_50 rfl
      · have h := jz_f c2_ h
        refine jr_iload 33 C d_AR_trace_33 rfl ?_
        obtain rfl := Option.some.inj h
        exact jr_iret 35 (v := x4) C d_AR_trace_35 rfl
def f_AR_trace (a1 : Int32) (a2 : Int32) (m : jz_M) : Option (Int32 × jz_M) :=
  (f_AR_isRouter a1 m).bind fun v1_ =>
  if v1_ = 0 then
    some ((-1), m)
  else
    (f_AR_isRouter a2 m).bind fun v3_ =>
    if ¬ v3_ = 0 then
      f_AR_trace_21 1000 a2 a1 0 m
    else
      some ((-1), m)
set_option maxHeartbeats 4000000 in
set_option maxRecDepth 100000 in
theorem c_AR_trace {Z : cz_Z} (l : Launch) (hI : jz_I (cz_G Z)) {a1 : Int32} {a2 : Int32} {m : jz_M} {r : Int32 × jz_M} (h : f_AR_trace a1 a2 m = some r) : jz_m l y_AR_trace cd_AR_trace rm_AR_trace (cz_G Z) [.ref (gz_ad (cz_G Z) 0), .int a1, .int a2] m (some (.int r.1)) r.2 := by
  refine jz_met (own := R_AR) (by decide) rfl hI (Nat.le_of_ble_eq_true rfl) (fun X hX C => ?_)
  subst hX
  show jz_J X 6 (cz_G Z) _ m [(0, .ref (gz_ad (cz_G Z) 0)), (1, .int a1), (2, .int a2)] 0 []
  unfold f_AR_trace at h
  refine jr_iload_n 0 C d_AR_trace_0 rfl ?_
  obtain ⟨v1_, ev1_, h⟩ := jz_b h
  refine jr_callS 1 [.int a1] C d_AR_trace_1 (c_AR_isRouter (xz_l X) C.2.2.2.2.2.2.1 ev1_) sz_AR_isRouter tz_AR_isRouter lk_AR_51 (by decide) rfl rfl (Nat.le_of_ble_eq_true rfl) rfl ?_
  refine jr_if_eq 4 14 C d_AR_trace_4 (by decide) (fun c2_ => ?_) (fun c2_ => ?_)
  · have h := jz_t c2_ h
    refine jr_iconst 14 (-1) C d_AR_trace_14 (by decide) ?_
    obtain rfl := Option.some.inj h
    exact jr_iret 15 (v := (-1)) C d_AR_trace_15 rfl
  · have h := jz_f c2_ h
    refine jr_iload_n 7 C d_AR_trace_7 rfl ?_
    obtain ⟨v3_, ev3_, h⟩ := jz_b h
    refine jr_callS 8 [.int a2] C d_AR_trace_8 (c_AR_isRouter (xz_l X) C.2.2.2.2.2.2.1  ev3_) sz_AR_isRouter tz_AR_isRouter lk_AR_51 (by decide) rfl rfl (Nat.le_of_ble_eq_true rfl) rfl ?_
    refine jr_if_ne 11 16 C d_AR_trace_11 (by decide) (fun c4_ => ?_) (fun c4_ => ?_)
    · have h := jz_t c4_ h
      refine jr_iload_n 16 C d_AR_trace_16 rfl ?_
      refine jr_istore_n 17 [(0, .ref (gz_ad (cz_G Z) 0)), (1, .int a1), (2, .int a2), (3, .int a1)] C d_AR_trace_17 rfl (by decide) rfl ?_
      refine jr_iconst 18 0 C d_AR_trace_18 (by decide) ?_
      refine jr_istore 19 [(0, .ref (gz_ad (cz_G Z) 0)), (1, .int a1), (2, .int a2), (3, .int a1), (4, .int 0)] C d_AR_trace_19 rfl (by decide) rfl ?_
      refine jr_sub [0, 2, 3, 4] rfl ?_
      exact t_AR_trace_21 C  1000 a2 a1 0 m h
    · have h := jz_f c4_ h
      refine jr_iconst 14 (-1) C d_AR_trace_14 (by decide) ?_
      obtain rfl := Option.some.inj h
      exact jr_iret 15 (v := (-1)) C d_AR_trace_15 rfl
end
