section
-- ===== PART A: goes FIRST, ahead of the names: the tables' words, and 'selects' of the private methods out of them =====
/-- a private method of a class that the tables say can be made, by its rows of tables_1 -/
def lw_okq (q : MethodName × Nat) : Prop := (q.1.cls ≠ "java/lang/invoke/MethodHandle" ∧ q.1.cls ≠ "java/lang/invoke/VarHandle") ∧ Cond.instantiable q.1.cls q.2 ∈ tables_1 ∧ Cond.privateMethod q.1 ∈ tables_1 ∧ Cond.instanceMethod q.1 ∈ tables_1
theorem lw_p0 : lw_okq (⟨"AreaRouters$Wiring", "circuitsOf", "(I)I"⟩, 2) := ⟨⟨by decide +kernel, by decide +kernel⟩, List.mem_of_getElem? (i := 24) (by decide +kernel), List.mem_of_getElem? (i := 163) (by decide +kernel), List.mem_of_getElem? (i := 164) (by decide +kernel)⟩
theorem lw_p1 : lw_okq (⟨"AreaRouters$Wiring", "isAttached", "(II)Z"⟩, 2) := ⟨⟨by decide +kernel, by decide +kernel⟩, List.mem_of_getElem? (i := 24) (by decide +kernel), List.mem_of_getElem? (i := 167) (by decide +kernel), List.mem_of_getElem? (i := 168) (by decide +kernel)⟩
theorem lw_p2 : lw_okq (⟨"AreaRouters$Wiring", "countOn", "(I)I"⟩, 2) := ⟨⟨by decide +kernel, by decide +kernel⟩, List.mem_of_getElem? (i := 24) (by decide +kernel), List.mem_of_getElem? (i := 179) (by decide +kernel), List.mem_of_getElem? (i := 180) (by decide +kernel)⟩
theorem lw_p3 : lw_okq (⟨"AreaRouters$Wiring", "join", "(IIII)V"⟩, 2) := ⟨⟨by decide +kernel, by decide +kernel⟩, List.mem_of_getElem? (i := 24) (by decide +kernel), List.mem_of_getElem? (i := 183) (by decide +kernel), List.mem_of_getElem? (i := 184) (by decide +kernel)⟩
theorem lw_p4 : lw_okq (⟨"AreaRouters$Hearing", "age", "()V"⟩, 2) := ⟨⟨by decide +kernel, by decide +kernel⟩, List.mem_of_getElem? (i := 39) (by decide +kernel), List.mem_of_getElem? (i := 191) (by decide +kernel), List.mem_of_getElem? (i := 192) (by decide +kernel)⟩
theorem lw_p5 : lw_okq (⟨"AreaRouters", "baseOf", "(II)LAreaRouters$Base;"⟩, 7) := ⟨⟨by decide +kernel, by decide +kernel⟩, List.mem_of_getElem? (i := 16) (by decide +kernel), List.mem_of_getElem? (i := 195) (by decide +kernel), List.mem_of_getElem? (i := 196) (by decide +kernel)⟩
theorem lw_p6 : lw_okq (⟨"AreaRouters$Base", "age", "(I)V"⟩, 10) := ⟨⟨by decide +kernel, by decide +kernel⟩, List.mem_of_getElem? (i := 54) (by decide +kernel), List.mem_of_getElem? (i := 199) (by decide +kernel), List.mem_of_getElem? (i := 200) (by decide +kernel)⟩
theorem lw_p7 : lw_okq (⟨"AreaRouters$Base", "isAlive", "(I)Z"⟩, 10) := ⟨⟨by decide +kernel, by decide +kernel⟩, List.mem_of_getElem? (i := 54) (by decide +kernel), List.mem_of_getElem? (i := 203) (by decide +kernel), List.mem_of_getElem? (i := 204) (by decide +kernel)⟩
theorem lw_p8 : lw_okq (⟨"AreaRouters$Base", "end", "(II)V"⟩, 10) := ⟨⟨by decide +kernel, by decide +kernel⟩, List.mem_of_getElem? (i := 54) (by decide +kernel), List.mem_of_getElem? (i := 207) (by decide +kernel), List.mem_of_getElem? (i := 208) (by decide +kernel)⟩
theorem lw_p9 : lw_okq (⟨"AreaRouters$Base", "has", "(I)Z"⟩, 10) := ⟨⟨by decide +kernel, by decide +kernel⟩, List.mem_of_getElem? (i := 54) (by decide +kernel), List.mem_of_getElem? (i := 211) (by decide +kernel), List.mem_of_getElem? (i := 212) (by decide +kernel)⟩
theorem lw_p10 : lw_okq (⟨"AreaRouters$Base", "remove", "(I)V"⟩, 10) := ⟨⟨by decide +kernel, by decide +kernel⟩, List.mem_of_getElem? (i := 54) (by decide +kernel), List.mem_of_getElem? (i := 215) (by decide +kernel), List.mem_of_getElem? (i := 216) (by decide +kernel)⟩
theorem lw_p11 : lw_okq (⟨"AreaRouters", "hearingAt", "(I)LAreaRouters$Hearing;"⟩, 7) := ⟨⟨by decide +kernel, by decide +kernel⟩, List.mem_of_getElem? (i := 16) (by decide +kernel), List.mem_of_getElem? (i := 226) (by decide +kernel), List.mem_of_getElem? (i := 227) (by decide +kernel)⟩
theorem lw_p12 : lw_okq (⟨"AreaRouters$Hearing", "isMutual", "(III)Z"⟩, 2) := ⟨⟨by decide +kernel, by decide +kernel⟩, List.mem_of_getElem? (i := 39) (by decide +kernel), List.mem_of_getElem? (i := 230) (by decide +kernel), List.mem_of_getElem? (i := 231) (by decide +kernel)⟩
theorem lw_p13 : lw_okq (⟨"AreaRouters", "hasLevel", "(II)Z"⟩, 7) := ⟨⟨by decide +kernel, by decide +kernel⟩, List.mem_of_getElem? (i := 16) (by decide +kernel), List.mem_of_getElem? (i := 238) (by decide +kernel), List.mem_of_getElem? (i := 239) (by decide +kernel)⟩
theorem lw_p14 : lw_okq (⟨"AreaRouters", "speakerSeenBy", "(III)I"⟩, 7) := ⟨⟨by decide +kernel, by decide +kernel⟩, List.mem_of_getElem? (i := 16) (by decide +kernel), List.mem_of_getElem? (i := 242) (by decide +kernel), List.mem_of_getElem? (i := 243) (by decide +kernel)⟩
theorem lw_p15 : lw_okq (⟨"AreaRouters$Wiring", "priorityOf", "(II)I"⟩, 2) := ⟨⟨by decide +kernel, by decide +kernel⟩, List.mem_of_getElem? (i := 24) (by decide +kernel), List.mem_of_getElem? (i := 246) (by decide +kernel), List.mem_of_getElem? (i := 247) (by decide +kernel)⟩
def lw_privs_1 : List (MethodName × Nat) := [(⟨"AreaRouters$Wiring", "circuitsOf", "(I)I"⟩, 2), (⟨"AreaRouters$Wiring", "isAttached", "(II)Z"⟩, 2), (⟨"AreaRouters$Wiring", "countOn", "(I)I"⟩, 2), (⟨"AreaRouters$Wiring", "join", "(IIII)V"⟩, 2), (⟨"AreaRouters$Hearing", "age", "()V"⟩, 2), (⟨"AreaRouters", "baseOf", "(II)LAreaRouters$Base;"⟩, 7), (⟨"AreaRouters$Base", "age", "(I)V"⟩, 10), (⟨"AreaRouters$Base", "isAlive", "(I)Z"⟩, 10), (⟨"AreaRouters$Base", "end", "(II)V"⟩, 10), (⟨"AreaRouters$Base", "has", "(I)Z"⟩, 10), (⟨"AreaRouters$Base", "remove", "(I)V"⟩, 10), (⟨"AreaRouters", "hearingAt", "(I)LAreaRouters$Hearing;"⟩, 7), (⟨"AreaRouters$Hearing", "isMutual", "(III)Z"⟩, 2), (⟨"AreaRouters", "hasLevel", "(II)Z"⟩, 7), (⟨"AreaRouters", "speakerSeenBy", "(III)I"⟩, 7), (⟨"AreaRouters$Wiring", "priorityOf", "(II)I"⟩, 2)]
theorem lw_r1 : ∀ q ∈ lw_privs_1, lw_okq q := List.forall_mem_cons.mpr ⟨lw_p0, List.forall_mem_cons.mpr ⟨lw_p1, List.forall_mem_cons.mpr ⟨lw_p2, List.forall_mem_cons.mpr ⟨lw_p3, List.forall_mem_cons.mpr ⟨lw_p4, List.forall_mem_cons.mpr ⟨lw_p5, List.forall_mem_cons.mpr ⟨lw_p6, List.forall_mem_cons.mpr ⟨lw_p7, List.forall_mem_cons.mpr ⟨lw_p8, List.forall_mem_cons.mpr ⟨lw_p9, List.forall_mem_cons.mpr ⟨lw_p10, List.forall_mem_cons.mpr ⟨lw_p11, List.forall_mem_cons.mpr ⟨lw_p12, List.forall_mem_cons.mpr ⟨lw_p13, List.forall_mem_cons.mpr ⟨lw_p14, List.forall_mem_cons.mpr ⟨lw_p15, fun _ h => absurd h List.not_mem_nil⟩⟩⟩⟩⟩⟩⟩⟩⟩⟩⟩⟩⟩⟩⟩⟩
theorem lw_p16 : lw_okq (⟨"AreaRouters$Base", "tell", "(II)I"⟩, 10) := ⟨⟨by decide +kernel, by decide +kernel⟩, List.mem_of_getElem? (i := 54) (by decide +kernel), List.mem_of_getElem? (i := 257) (by decide +kernel), List.mem_of_getElem? (i := 258) (by decide +kernel)⟩
theorem lw_p17 : lw_okq (⟨"AreaRouters$Base", "linkOf", "(II)I"⟩, 10) := ⟨⟨by decide +kernel, by decide +kernel⟩, List.mem_of_getElem? (i := 54) (by decide +kernel), List.mem_of_getElem? (i := 261) (by decide +kernel), List.mem_of_getElem? (i := 262) (by decide +kernel)⟩
theorem lw_p18 : lw_okq (⟨"AreaRouters$Base", "marksOf", "(I)I"⟩, 10) := ⟨⟨by decide +kernel, by decide +kernel⟩, List.mem_of_getElem? (i := 54) (by decide +kernel), List.mem_of_getElem? (i := 269) (by decide +kernel), List.mem_of_getElem? (i := 270) (by decide +kernel)⟩
theorem lw_p19 : lw_okq (⟨"AreaRouters", "wayFrom", "(II)I"⟩, 7) := ⟨⟨by decide +kernel, by decide +kernel⟩, List.mem_of_getElem? (i := 16) (by decide +kernel), List.mem_of_getElem? (i := 277) (by decide +kernel), List.mem_of_getElem? (i := 278) (by decide +kernel)⟩
theorem lw_p20 : lw_okq (⟨"AreaRouters$Ways", "find", "(LAreaRouters$Base;I)V"⟩, 3) := ⟨⟨by decide +kernel, by decide +kernel⟩, List.mem_of_getElem? (i := 118) (by decide +kernel), List.mem_of_getElem? (i := 284) (by decide +kernel), List.mem_of_getElem? (i := 285) (by decide +kernel)⟩
theorem lw_p21 : lw_okq (⟨"AreaRouters$Ways", "nextToSettle", "()I"⟩, 3) := ⟨⟨by decide +kernel, by decide +kernel⟩, List.mem_of_getElem? (i := 118) (by decide +kernel), List.mem_of_getElem? (i := 289) (by decide +kernel), List.mem_of_getElem? (i := 290) (by decide +kernel)⟩
theorem lw_p22 : lw_okq (⟨"AreaRouters$Ways", "followLinks", "(LAreaRouters$Base;I)V"⟩, 3) := ⟨⟨by decide +kernel, by decide +kernel⟩, List.mem_of_getElem? (i := 118) (by decide +kernel), List.mem_of_getElem? (i := 296) (by decide +kernel), List.mem_of_getElem? (i := 297) (by decide +kernel)⟩
theorem lw_p23 : lw_okq (⟨"AreaRouters$Base", "hasLink", "(II)Z"⟩, 10) := ⟨⟨by decide +kernel, by decide +kernel⟩, List.mem_of_getElem? (i := 54) (by decide +kernel), List.mem_of_getElem? (i := 303) (by decide +kernel), List.mem_of_getElem? (i := 304) (by decide +kernel)⟩
theorem lw_p24 : lw_okq (⟨"AreaRouters$Ways", "reach", "(III)V"⟩, 3) := ⟨⟨by decide +kernel, by decide +kernel⟩, List.mem_of_getElem? (i := 118) (by decide +kernel), List.mem_of_getElem? (i := 307) (by decide +kernel), List.mem_of_getElem? (i := 308) (by decide +kernel)⟩
theorem lw_p25 : lw_okq (⟨"AreaRouters$Ways", "wayTo", "(I)I"⟩, 3) := ⟨⟨by decide +kernel, by decide +kernel⟩, List.mem_of_getElem? (i := 118) (by decide +kernel), List.mem_of_getElem? (i := 314) (by decide +kernel), List.mem_of_getElem? (i := 315) (by decide +kernel)⟩
theorem lw_p26 : lw_okq (⟨"AreaRouters", "wayToArea", "(II)I"⟩, 7) := ⟨⟨by decide +kernel, by decide +kernel⟩, List.mem_of_getElem? (i := 16) (by decide +kernel), List.mem_of_getElem? (i := 320) (by decide +kernel), List.mem_of_getElem? (i := 321) (by decide +kernel)⟩
theorem lw_p27 : lw_okq (⟨"AreaRouters$Ways", "nearer", "(II)I"⟩, 3) := ⟨⟨by decide +kernel, by decide +kernel⟩, List.mem_of_getElem? (i := 118) (by decide +kernel), List.mem_of_getElem? (i := 324) (by decide +kernel), List.mem_of_getElem? (i := 325) (by decide +kernel)⟩
theorem lw_p28 : lw_okq (⟨"AreaRouters", "wayToExit", "(I)I"⟩, 7) := ⟨⟨by decide +kernel, by decide +kernel⟩, List.mem_of_getElem? (i := 16) (by decide +kernel), List.mem_of_getElem? (i := 328) (by decide +kernel), List.mem_of_getElem? (i := 329) (by decide +kernel)⟩
theorem lw_p29 : lw_okq (⟨"AreaRouters", "checkSender", "(II)V"⟩, 7) := ⟨⟨by decide +kernel, by decide +kernel⟩, List.mem_of_getElem? (i := 16) (by decide +kernel), List.mem_of_getElem? (i := 345) (by decide +kernel), List.mem_of_getElem? (i := 346) (by decide +kernel)⟩
theorem lw_p30 : lw_okq (⟨"java/lang/Throwable", "fillInStackTrace", "(I)Ljava/lang/Throwable;"⟩, 6) := ⟨⟨by decide +kernel, by decide +kernel⟩, List.mem_of_getElem? (i := 387) (by decide +kernel), List.mem_of_getElem? (i := 385) (by decide +kernel), List.mem_of_getElem? (i := 386) (by decide +kernel)⟩
theorem lw_p31 : lw_okq (⟨"AreaRouters", "noteHello", "(III)V"⟩, 7) := ⟨⟨by decide +kernel, by decide +kernel⟩, List.mem_of_getElem? (i := 16) (by decide +kernel), List.mem_of_getElem? (i := 436) (by decide +kernel), List.mem_of_getElem? (i := 437) (by decide +kernel)⟩
def lw_privs_2 : List (MethodName × Nat) := [(⟨"AreaRouters$Base", "tell", "(II)I"⟩, 10), (⟨"AreaRouters$Base", "linkOf", "(II)I"⟩, 10), (⟨"AreaRouters$Base", "marksOf", "(I)I"⟩, 10), (⟨"AreaRouters", "wayFrom", "(II)I"⟩, 7), (⟨"AreaRouters$Ways", "find", "(LAreaRouters$Base;I)V"⟩, 3), (⟨"AreaRouters$Ways", "nextToSettle", "()I"⟩, 3), (⟨"AreaRouters$Ways", "followLinks", "(LAreaRouters$Base;I)V"⟩, 3), (⟨"AreaRouters$Base", "hasLink", "(II)Z"⟩, 10), (⟨"AreaRouters$Ways", "reach", "(III)V"⟩, 3), (⟨"AreaRouters$Ways", "wayTo", "(I)I"⟩, 3), (⟨"AreaRouters", "wayToArea", "(II)I"⟩, 7), (⟨"AreaRouters$Ways", "nearer", "(II)I"⟩, 3), (⟨"AreaRouters", "wayToExit", "(I)I"⟩, 7), (⟨"AreaRouters", "checkSender", "(II)V"⟩, 7), (⟨"java/lang/Throwable", "fillInStackTrace", "(I)Ljava/lang/Throwable;"⟩, 6), (⟨"AreaRouters", "noteHello", "(III)V"⟩, 7)]
theorem lw_r2 : ∀ q ∈ lw_privs_2, lw_okq q := List.forall_mem_cons.mpr ⟨lw_p16, List.forall_mem_cons.mpr ⟨lw_p17, List.forall_mem_cons.mpr ⟨lw_p18, List.forall_mem_cons.mpr ⟨lw_p19, List.forall_mem_cons.mpr ⟨lw_p20, List.forall_mem_cons.mpr ⟨lw_p21, List.forall_mem_cons.mpr ⟨lw_p22, List.forall_mem_cons.mpr ⟨lw_p23, List.forall_mem_cons.mpr ⟨lw_p24, List.forall_mem_cons.mpr ⟨lw_p25, List.forall_mem_cons.mpr ⟨lw_p26, List.forall_mem_cons.mpr ⟨lw_p27, List.forall_mem_cons.mpr ⟨lw_p28, List.forall_mem_cons.mpr ⟨lw_p29, List.forall_mem_cons.mpr ⟨lw_p30, List.forall_mem_cons.mpr ⟨lw_p31, fun _ h => absurd h List.not_mem_nil⟩⟩⟩⟩⟩⟩⟩⟩⟩⟩⟩⟩⟩⟩⟩⟩
theorem lw_p32 : lw_okq (⟨"AreaRouters$Hearing", "isHeard", "(III)Z"⟩, 2) := ⟨⟨by decide +kernel, by decide +kernel⟩, List.mem_of_getElem? (i := 39) (by decide +kernel), List.mem_of_getElem? (i := 440) (by decide +kernel), List.mem_of_getElem? (i := 441) (by decide +kernel)⟩
theorem lw_p33 : lw_okq (⟨"AreaRouters$Hearing", "note", "(IIIZ)V"⟩, 2) := ⟨⟨by decide +kernel, by decide +kernel⟩, List.mem_of_getElem? (i := 39) (by decide +kernel), List.mem_of_getElem? (i := 444) (by decide +kernel), List.mem_of_getElem? (i := 445) (by decide +kernel)⟩
theorem lw_p34 : lw_okq (⟨"AreaRouters", "checkLevel", "(II)V"⟩, 7) := ⟨⟨by decide +kernel, by decide +kernel⟩, List.mem_of_getElem? (i := 16) (by decide +kernel), List.mem_of_getElem? (i := 456) (by decide +kernel), List.mem_of_getElem? (i := 457) (by decide +kernel)⟩
theorem lw_p35 : lw_okq (⟨"AreaRouters$Base", "isDue", "(II)Z"⟩, 10) := ⟨⟨by decide +kernel, by decide +kernel⟩, List.mem_of_getElem? (i := 54) (by decide +kernel), List.mem_of_getElem? (i := 476) (by decide +kernel), List.mem_of_getElem? (i := 477) (by decide +kernel)⟩
theorem lw_p36 : lw_okq (⟨"AreaRouters", "isReached", "(IIIII)Z"⟩, 7) := ⟨⟨by decide +kernel, by decide +kernel⟩, List.mem_of_getElem? (i := 16) (by decide +kernel), List.mem_of_getElem? (i := 480) (by decide +kernel), List.mem_of_getElem? (i := 481) (by decide +kernel)⟩
theorem lw_p37 : lw_okq (⟨"AreaRouters", "receive", "(IIILAreaRouters$Base;I)V"⟩, 7) := ⟨⟨by decide +kernel, by decide +kernel⟩, List.mem_of_getElem? (i := 16) (by decide +kernel), List.mem_of_getElem? (i := 484) (by decide +kernel), List.mem_of_getElem? (i := 485) (by decide +kernel)⟩
theorem lw_p38 : lw_okq (⟨"AreaRouters$Base", "orderAgainst", "(LAreaRouters$Base;I)I"⟩, 10) := ⟨⟨by decide +kernel, by decide +kernel⟩, List.mem_of_getElem? (i := 54) (by decide +kernel), List.mem_of_getElem? (i := 488) (by decide +kernel), List.mem_of_getElem? (i := 489) (by decide +kernel)⟩
theorem lw_p39 : lw_okq (⟨"AreaRouters$Base", "setDue", "(IIZ)V"⟩, 10) := ⟨⟨by decide +kernel, by decide +kernel⟩, List.mem_of_getElem? (i := 54) (by decide +kernel), List.mem_of_getElem? (i := 492) (by decide +kernel), List.mem_of_getElem? (i := 493) (by decide +kernel)⟩
theorem lw_p40 : lw_okq (⟨"AreaRouters$Base", "setAsked", "(IIZ)V"⟩, 10) := ⟨⟨by decide +kernel, by decide +kernel⟩, List.mem_of_getElem? (i := 54) (by decide +kernel), List.mem_of_getElem? (i := 496) (by decide +kernel), List.mem_of_getElem? (i := 497) (by decide +kernel)⟩
theorem lw_p41 : lw_okq (⟨"AreaRouters$Base", "copyFrom", "(LAreaRouters$Base;I)V"⟩, 10) := ⟨⟨by decide +kernel, by decide +kernel⟩, List.mem_of_getElem? (i := 54) (by decide +kernel), List.mem_of_getElem? (i := 500) (by decide +kernel), List.mem_of_getElem? (i := 501) (by decide +kernel)⟩
theorem lw_p42 : lw_okq (⟨"AreaRouters$Base", "takeLinks", "(I[III)V"⟩, 10) := ⟨⟨by decide +kernel, by decide +kernel⟩, List.mem_of_getElem? (i := 54) (by decide +kernel), List.mem_of_getElem? (i := 507) (by decide +kernel), List.mem_of_getElem? (i := 508) (by decide +kernel)⟩
theorem lw_p43 : lw_okq (⟨"AreaRouters", "answerForOwn", "(III)V"⟩, 7) := ⟨⟨by decide +kernel, by decide +kernel⟩, List.mem_of_getElem? (i := 16) (by decide +kernel), List.mem_of_getElem? (i := 513) (by decide +kernel), List.mem_of_getElem? (i := 514) (by decide +kernel)⟩
theorem lw_p44 : lw_okq (⟨"AreaRouters", "draftPart", "(III)Z"⟩, 7) := ⟨⟨by decide +kernel, by decide +kernel⟩, List.mem_of_getElem? (i := 16) (by decide +kernel), List.mem_of_getElem? (i := 518) (by decide +kernel), List.mem_of_getElem? (i := 519) (by decide +kernel)⟩
theorem lw_p45 : lw_okq (⟨"AreaRouters$Draft", "begin", "(I)V"⟩, 4) := ⟨⟨by decide +kernel, by decide +kernel⟩, List.mem_of_getElem? (i := 94) (by decide +kernel), List.mem_of_getElem? (i := 522) (by decide +kernel), List.mem_of_getElem? (i := 523) (by decide +kernel)⟩
theorem lw_p46 : lw_okq (⟨"AreaRouters", "draftItself", "(II)V"⟩, 7) := ⟨⟨by decide +kernel, by decide +kernel⟩, List.mem_of_getElem? (i := 16) (by decide +kernel), List.mem_of_getElem? (i := 526) (by decide +kernel), List.mem_of_getElem? (i := 527) (by decide +kernel)⟩
theorem lw_p47 : lw_okq (⟨"AreaRouters", "hasLevelTwoNeighbourElsewhere", "(I)Z"⟩, 7) := ⟨⟨by decide +kernel, by decide +kernel⟩, List.mem_of_getElem? (i := 16) (by decide +kernel), List.mem_of_getElem? (i := 530) (by decide +kernel), List.mem_of_getElem? (i := 531) (by decide +kernel)⟩
def lw_privs_3 : List (MethodName × Nat) := [(⟨"AreaRouters$Hearing", "isHeard", "(III)Z"⟩, 2), (⟨"AreaRouters$Hearing", "note", "(IIIZ)V"⟩, 2), (⟨"AreaRouters", "checkLevel", "(II)V"⟩, 7), (⟨"AreaRouters$Base", "isDue", "(II)Z"⟩, 10), (⟨"AreaRouters", "isReached", "(IIIII)Z"⟩, 7), (⟨"AreaRouters", "receive", "(IIILAreaRouters$Base;I)V"⟩, 7), (⟨"AreaRouters$Base", "orderAgainst", "(LAreaRouters$Base;I)I"⟩, 10), (⟨"AreaRouters$Base", "setDue", "(IIZ)V"⟩, 10), (⟨"AreaRouters$Base", "setAsked", "(IIZ)V"⟩, 10), (⟨"AreaRouters$Base", "copyFrom", "(LAreaRouters$Base;I)V"⟩, 10), (⟨"AreaRouters$Base", "takeLinks", "(I[III)V"⟩, 10), (⟨"AreaRouters", "answerForOwn", "(III)V"⟩, 7), (⟨"AreaRouters", "draftPart", "(III)Z"⟩, 7), (⟨"AreaRouters$Draft", "begin", "(I)V"⟩, 4), (⟨"AreaRouters", "draftItself", "(II)V"⟩, 7), (⟨"AreaRouters", "hasLevelTwoNeighbourElsewhere", "(I)Z"⟩, 7)]
theorem lw_r3 : ∀ q ∈ lw_privs_3, lw_okq q := List.forall_mem_cons.mpr ⟨lw_p32, List.forall_mem_cons.mpr ⟨lw_p33, List.forall_mem_cons.mpr ⟨lw_p34, List.forall_mem_cons.mpr ⟨lw_p35, List.forall_mem_cons.mpr ⟨lw_p36, List.forall_mem_cons.mpr ⟨lw_p37, List.forall_mem_cons.mpr ⟨lw_p38, List.forall_mem_cons.mpr ⟨lw_p39, List.forall_mem_cons.mpr ⟨lw_p40, List.forall_mem_cons.mpr ⟨lw_p41, List.forall_mem_cons.mpr ⟨lw_p42, List.forall_mem_cons.mpr ⟨lw_p43, List.forall_mem_cons.mpr ⟨lw_p44, List.forall_mem_cons.mpr ⟨lw_p45, List.forall_mem_cons.mpr ⟨lw_p46, List.forall_mem_cons.mpr ⟨lw_p47, fun _ h => absurd h List.not_mem_nil⟩⟩⟩⟩⟩⟩⟩⟩⟩⟩⟩⟩⟩⟩⟩⟩
theorem lw_p48 : lw_okq (⟨"AreaRouters$Hearing", "firstMutual", "(II)I"⟩, 2) := ⟨⟨by decide +kernel, by decide +kernel⟩, List.mem_of_getElem? (i := 39) (by decide +kernel), List.mem_of_getElem? (i := 534) (by decide +kernel), List.mem_of_getElem? (i := 535) (by decide +kernel)⟩
theorem lw_p49 : lw_okq (⟨"AreaRouters$Wiring", "isShared", "(I)Z"⟩, 2) := ⟨⟨by decide +kernel, by decide +kernel⟩, List.mem_of_getElem? (i := 24) (by decide +kernel), List.mem_of_getElem? (i := 539) (by decide +kernel), List.mem_of_getElem? (i := 540) (by decide +kernel)⟩
theorem lw_p50 : lw_okq (⟨"AreaRouters$Wiring", "metricOf", "(II)I"⟩, 2) := ⟨⟨by decide +kernel, by decide +kernel⟩, List.mem_of_getElem? (i := 24) (by decide +kernel), List.mem_of_getElem? (i := 544) (by decide +kernel), List.mem_of_getElem? (i := 545) (by decide +kernel)⟩
theorem lw_p51 : lw_okq (⟨"AreaRouters$Draft", "addLink", "(II)V"⟩, 4) := ⟨⟨by decide +kernel, by decide +kernel⟩, List.mem_of_getElem? (i := 94) (by decide +kernel), List.mem_of_getElem? (i := 548) (by decide +kernel), List.mem_of_getElem? (i := 549) (by decide +kernel)⟩
theorem lw_p52 : lw_okq (⟨"AreaRouters", "draftCircuit", "(III)Z"⟩, 7) := ⟨⟨by decide +kernel, by decide +kernel⟩, List.mem_of_getElem? (i := 16) (by decide +kernel), List.mem_of_getElem? (i := 552) (by decide +kernel), List.mem_of_getElem? (i := 553) (by decide +kernel)⟩
theorem lw_p53 : lw_okq (⟨"AreaRouters$Base", "renew", "(ILAreaRouters$Draft;I)V"⟩, 10) := ⟨⟨by decide +kernel, by decide +kernel⟩, List.mem_of_getElem? (i := 54) (by decide +kernel), List.mem_of_getElem? (i := 556) (by decide +kernel), List.mem_of_getElem? (i := 557) (by decide +kernel)⟩
theorem lw_p54 : lw_okq (⟨"AreaRouters$Base", "askNowhere", "(I)V"⟩, 10) := ⟨⟨by decide +kernel, by decide +kernel⟩, List.mem_of_getElem? (i := 54) (by decide +kernel), List.mem_of_getElem? (i := 561) (by decide +kernel), List.mem_of_getElem? (i := 562) (by decide +kernel)⟩
theorem lw_p55 : lw_okq (⟨"AreaRouters$Base", "setDueOn", "(II)V"⟩, 10) := ⟨⟨by decide +kernel, by decide +kernel⟩, List.mem_of_getElem? (i := 54) (by decide +kernel), List.mem_of_getElem? (i := 565) (by decide +kernel), List.mem_of_getElem? (i := 566) (by decide +kernel)⟩
theorem lw_p56 : lw_okq (⟨"AreaRouters$Base", "compareWithSummary", "(LAreaRouters$Base;I)V"⟩, 10) := ⟨⟨by decide +kernel, by decide +kernel⟩, List.mem_of_getElem? (i := 54) (by decide +kernel), List.mem_of_getElem? (i := 576) (by decide +kernel), List.mem_of_getElem? (i := 577) (by decide +kernel)⟩
theorem lw_p57 : lw_okq (⟨"AreaRouters$Base", "compareWithTold", "(LAreaRouters$Base;II)V"⟩, 10) := ⟨⟨by decide +kernel, by decide +kernel⟩, List.mem_of_getElem? (i := 54) (by decide +kernel), List.mem_of_getElem? (i := 580) (by decide +kernel), List.mem_of_getElem? (i := 581) (by decide +kernel)⟩
theorem lw_p58 : lw_okq (⟨"AreaRouters$Base", "count", "()I"⟩, 10) := ⟨⟨by decide +kernel, by decide +kernel⟩, List.mem_of_getElem? (i := 54) (by decide +kernel), List.mem_of_getElem? (i := 587) (by decide +kernel), List.mem_of_getElem? (i := 588) (by decide +kernel)⟩
theorem lw_p59 : lw_okq (⟨"AreaRouters$Base", "isAsked", "(II)Z"⟩, 10) := ⟨⟨by decide +kernel, by decide +kernel⟩, List.mem_of_getElem? (i := 54) (by decide +kernel), List.mem_of_getElem? (i := 598) (by decide +kernel), List.mem_of_getElem? (i := 599) (by decide +kernel)⟩
theorem lw_p60 : lw_okq (⟨"AreaRouters", "bringUpToDate", "(III)Z"⟩, 7) := ⟨⟨by decide +kernel, by decide +kernel⟩, List.mem_of_getElem? (i := 16) (by decide +kernel), List.mem_of_getElem? (i := 611) (by decide +kernel), List.mem_of_getElem? (i := 612) (by decide +kernel)⟩
theorem lw_p61 : lw_okq (⟨"AreaRouters$Base", "isStillTrue", "(ILAreaRouters$Draft;)Z"⟩, 10) := ⟨⟨by decide +kernel, by decide +kernel⟩, List.mem_of_getElem? (i := 54) (by decide +kernel), List.mem_of_getElem? (i := 615) (by decide +kernel), List.mem_of_getElem? (i := 616) (by decide +kernel)⟩
theorem lw_p62 : lw_okq (⟨"AreaRoutersModel", "barred", "(II)I"⟩, 22) := ⟨⟨by decide +kernel, by decide +kernel⟩, List.mem_of_getElem? (i := 619) (by decide +kernel), List.mem_of_getElem? (i := 696) (by decide +kernel), List.mem_of_getElem? (i := 697) (by decide +kernel)⟩
theorem lw_p63 : lw_okq (⟨"AreaRoutersModel", "isOn", "(II)Z"⟩, 22) := ⟨⟨by decide +kernel, by decide +kernel⟩, List.mem_of_getElem? (i := 619) (by decide +kernel), List.mem_of_getElem? (i := 703) (by decide +kernel), List.mem_of_getElem? (i := 704) (by decide +kernel)⟩
def lw_privs_4 : List (MethodName × Nat) := [(⟨"AreaRouters$Hearing", "firstMutual", "(II)I"⟩, 2), (⟨"AreaRouters$Wiring", "isShared", "(I)Z"⟩, 2), (⟨"AreaRouters$Wiring", "metricOf", "(II)I"⟩, 2), (⟨"AreaRouters$Draft", "addLink", "(II)V"⟩, 4), (⟨"AreaRouters", "draftCircuit", "(III)Z"⟩, 7), (⟨"AreaRouters$Base", "renew", "(ILAreaRouters$Draft;I)V"⟩, 10), (⟨"AreaRouters$Base", "askNowhere", "(I)V"⟩, 10), (⟨"AreaRouters$Base", "setDueOn", "(II)V"⟩, 10), (⟨"AreaRouters$Base", "compareWithSummary", "(LAreaRouters$Base;I)V"⟩, 10), (⟨"AreaRouters$Base", "compareWithTold", "(LAreaRouters$Base;II)V"⟩, 10), (⟨"AreaRouters$Base", "count", "()I"⟩, 10), (⟨"AreaRouters$Base", "isAsked", "(II)Z"⟩, 10), (⟨"AreaRouters", "bringUpToDate", "(III)Z"⟩, 7), (⟨"AreaRouters$Base", "isStillTrue", "(ILAreaRouters$Draft;)Z"⟩, 10), (⟨"AreaRoutersModel", "barred", "(II)I"⟩, 22), (⟨"AreaRoutersModel", "isOn", "(II)Z"⟩, 22)]
theorem lw_r4 : ∀ q ∈ lw_privs_4, lw_okq q := List.forall_mem_cons.mpr ⟨lw_p48, List.forall_mem_cons.mpr ⟨lw_p49, List.forall_mem_cons.mpr ⟨lw_p50, List.forall_mem_cons.mpr ⟨lw_p51, List.forall_mem_cons.mpr ⟨lw_p52, List.forall_mem_cons.mpr ⟨lw_p53, List.forall_mem_cons.mpr ⟨lw_p54, List.forall_mem_cons.mpr ⟨lw_p55, List.forall_mem_cons.mpr ⟨lw_p56, List.forall_mem_cons.mpr ⟨lw_p57, List.forall_mem_cons.mpr ⟨lw_p58, List.forall_mem_cons.mpr ⟨lw_p59, List.forall_mem_cons.mpr ⟨lw_p60, List.forall_mem_cons.mpr ⟨lw_p61, List.forall_mem_cons.mpr ⟨lw_p62, List.forall_mem_cons.mpr ⟨lw_p63, fun _ h => absurd h List.not_mem_nil⟩⟩⟩⟩⟩⟩⟩⟩⟩⟩⟩⟩⟩⟩⟩⟩
theorem lw_p64 : lw_okq (⟨"AreaRoutersModel", "raise", "(I)I"⟩, 22) := ⟨⟨by decide +kernel, by decide +kernel⟩, List.mem_of_getElem? (i := 619) (by decide +kernel), List.mem_of_getElem? (i := 707) (by decide +kernel), List.mem_of_getElem? (i := 708) (by decide +kernel)⟩
theorem lw_p65 : lw_okq (⟨"AreaRoutersModel", "receives", "(IIII)Z"⟩, 22) := ⟨⟨by decide +kernel, by decide +kernel⟩, List.mem_of_getElem? (i := 619) (by decide +kernel), List.mem_of_getElem? (i := 711) (by decide +kernel), List.mem_of_getElem? (i := 712) (by decide +kernel)⟩
theorem lw_p66 : lw_okq (⟨"AreaRoutersModel", "has", "(II)Z"⟩, 22) := ⟨⟨by decide +kernel, by decide +kernel⟩, List.mem_of_getElem? (i := 619) (by decide +kernel), List.mem_of_getElem? (i := 715) (by decide +kernel), List.mem_of_getElem? (i := 716) (by decide +kernel)⟩
theorem lw_p67 : lw_okq (⟨"AreaRoutersModel", "part", "(III)Z"⟩, 22) := ⟨⟨by decide +kernel, by decide +kernel⟩, List.mem_of_getElem? (i := 619) (by decide +kernel), List.mem_of_getElem? (i := 726) (by decide +kernel), List.mem_of_getElem? (i := 727) (by decide +kernel)⟩
theorem lw_p68 : lw_okq (⟨"AreaRoutersModel", "describes", "(III)Z"⟩, 22) := ⟨⟨by decide +kernel, by decide +kernel⟩, List.mem_of_getElem? (i := 619) (by decide +kernel), List.mem_of_getElem? (i := 733) (by decide +kernel), List.mem_of_getElem? (i := 734) (by decide +kernel)⟩
theorem lw_p69 : lw_okq (⟨"AreaRoutersModel", "isShared", "(I)Z"⟩, 22) := ⟨⟨by decide +kernel, by decide +kernel⟩, List.mem_of_getElem? (i := 619) (by decide +kernel), List.mem_of_getElem? (i := 737) (by decide +kernel), List.mem_of_getElem? (i := 738) (by decide +kernel)⟩
theorem lw_p70 : lw_okq (⟨"AreaRoutersModel", "attached", "(I)I"⟩, 22) := ⟨⟨by decide +kernel, by decide +kernel⟩, List.mem_of_getElem? (i := 619) (by decide +kernel), List.mem_of_getElem? (i := 741) (by decide +kernel), List.mem_of_getElem? (i := 742) (by decide +kernel)⟩
theorem lw_p71 : lw_okq (⟨"AreaRoutersModel", "anyNear", "(III)Z"⟩, 22) := ⟨⟨by decide +kernel, by decide +kernel⟩, List.mem_of_getElem? (i := 619) (by decide +kernel), List.mem_of_getElem? (i := 745) (by decide +kernel), List.mem_of_getElem? (i := 746) (by decide +kernel)⟩
theorem lw_p72 : lw_okq (⟨"AreaRoutersModel", "near", "(IIII)Z"⟩, 22) := ⟨⟨by decide +kernel, by decide +kernel⟩, List.mem_of_getElem? (i := 619) (by decide +kernel), List.mem_of_getElem? (i := 749) (by decide +kernel), List.mem_of_getElem? (i := 750) (by decide +kernel)⟩
theorem lw_p73 : lw_okq (⟨"AreaRoutersModel", "speakerOf", "(III)I"⟩, 22) := ⟨⟨by decide +kernel, by decide +kernel⟩, List.mem_of_getElem? (i := 619) (by decide +kernel), List.mem_of_getElem? (i := 753) (by decide +kernel), List.mem_of_getElem? (i := 754) (by decide +kernel)⟩
theorem lw_p74 : lw_okq (⟨"AreaRoutersModel", "put", "(II)V"⟩, 22) := ⟨⟨by decide +kernel, by decide +kernel⟩, List.mem_of_getElem? (i := 619) (by decide +kernel), List.mem_of_getElem? (i := 757) (by decide +kernel), List.mem_of_getElem? (i := 758) (by decide +kernel)⟩
theorem lw_p75 : lw_okq (⟨"AreaRoutersModel", "ownLink", "(III)V"⟩, 22) := ⟨⟨by decide +kernel, by decide +kernel⟩, List.mem_of_getElem? (i := 619) (by decide +kernel), List.mem_of_getElem? (i := 761) (by decide +kernel), List.mem_of_getElem? (i := 762) (by decide +kernel)⟩
theorem lw_p76 : lw_okq (⟨"AreaRoutersModel", "sameLinks", "(I)Z"⟩, 22) := ⟨⟨by decide +kernel, by decide +kernel⟩, List.mem_of_getElem? (i := 619) (by decide +kernel), List.mem_of_getElem? (i := 765) (by decide +kernel), List.mem_of_getElem? (i := 766) (by decide +kernel)⟩
theorem lw_p77 : lw_okq (⟨"AreaRoutersModel", "exits", "(III)Z"⟩, 22) := ⟨⟨by decide +kernel, by decide +kernel⟩, List.mem_of_getElem? (i := 619) (by decide +kernel), List.mem_of_getElem? (i := 769) (by decide +kernel), List.mem_of_getElem? (i := 770) (by decide +kernel)⟩
theorem lw_p78 : lw_okq (⟨"AreaRoutersModel", "leavesArea", "(I)Z"⟩, 22) := ⟨⟨by decide +kernel, by decide +kernel⟩, List.mem_of_getElem? (i := 619) (by decide +kernel), List.mem_of_getElem? (i := 773) (by decide +kernel), List.mem_of_getElem? (i := 774) (by decide +kernel)⟩
theorem lw_p79 : lw_okq (⟨"AreaRoutersModel", "renew", "(III)V"⟩, 22) := ⟨⟨by decide +kernel, by decide +kernel⟩, List.mem_of_getElem? (i := 619) (by decide +kernel), List.mem_of_getElem? (i := 777) (by decide +kernel), List.mem_of_getElem? (i := 778) (by decide +kernel)⟩
def lw_privs_5 : List (MethodName × Nat) := [(⟨"AreaRoutersModel", "raise", "(I)I"⟩, 22), (⟨"AreaRoutersModel", "receives", "(IIII)Z"⟩, 22), (⟨"AreaRoutersModel", "has", "(II)Z"⟩, 22), (⟨"AreaRoutersModel", "part", "(III)Z"⟩, 22), (⟨"AreaRoutersModel", "describes", "(III)Z"⟩, 22), (⟨"AreaRoutersModel", "isShared", "(I)Z"⟩, 22), (⟨"AreaRoutersModel", "attached", "(I)I"⟩, 22), (⟨"AreaRoutersModel", "anyNear", "(III)Z"⟩, 22), (⟨"AreaRoutersModel", "near", "(IIII)Z"⟩, 22), (⟨"AreaRoutersModel", "speakerOf", "(III)I"⟩, 22), (⟨"AreaRoutersModel", "put", "(II)V"⟩, 22), (⟨"AreaRoutersModel", "ownLink", "(III)V"⟩, 22), (⟨"AreaRoutersModel", "sameLinks", "(I)Z"⟩, 22), (⟨"AreaRoutersModel", "exits", "(III)Z"⟩, 22), (⟨"AreaRoutersModel", "leavesArea", "(I)Z"⟩, 22), (⟨"AreaRoutersModel", "renew", "(III)V"⟩, 22)]
theorem lw_r5 : ∀ q ∈ lw_privs_5, lw_okq q := List.forall_mem_cons.mpr ⟨lw_p64, List.forall_mem_cons.mpr ⟨lw_p65, List.forall_mem_cons.mpr ⟨lw_p66, List.forall_mem_cons.mpr ⟨lw_p67, List.forall_mem_cons.mpr ⟨lw_p68, List.forall_mem_cons.mpr ⟨lw_p69, List.forall_mem_cons.mpr ⟨lw_p70, List.forall_mem_cons.mpr ⟨lw_p71, List.forall_mem_cons.mpr ⟨lw_p72, List.forall_mem_cons.mpr ⟨lw_p73, List.forall_mem_cons.mpr ⟨lw_p74, List.forall_mem_cons.mpr ⟨lw_p75, List.forall_mem_cons.mpr ⟨lw_p76, List.forall_mem_cons.mpr ⟨lw_p77, List.forall_mem_cons.mpr ⟨lw_p78, List.forall_mem_cons.mpr ⟨lw_p79, fun _ h => absurd h List.not_mem_nil⟩⟩⟩⟩⟩⟩⟩⟩⟩⟩⟩⟩⟩⟩⟩⟩
theorem lw_p80 : lw_okq (⟨"AreaRoutersModel", "circuits", "(I)I"⟩, 22) := ⟨⟨by decide +kernel, by decide +kernel⟩, List.mem_of_getElem? (i := 619) (by decide +kernel), List.mem_of_getElem? (i := 781) (by decide +kernel), List.mem_of_getElem? (i := 782) (by decide +kernel)⟩
theorem lw_p81 : lw_okq (⟨"AreaRoutersModel", "die", "(II)V"⟩, 22) := ⟨⟨by decide +kernel, by decide +kernel⟩, List.mem_of_getElem? (i := 619) (by decide +kernel), List.mem_of_getElem? (i := 785) (by decide +kernel), List.mem_of_getElem? (i := 786) (by decide +kernel)⟩
theorem lw_p82 : lw_okq (⟨"AreaRoutersModel", "barredAt", "(III)I"⟩, 22) := ⟨⟨by decide +kernel, by decide +kernel⟩, List.mem_of_getElem? (i := 619) (by decide +kernel), List.mem_of_getElem? (i := 793) (by decide +kernel), List.mem_of_getElem? (i := 794) (by decide +kernel)⟩
theorem lw_p83 : lw_okq (⟨"AreaRoutersModel", "take", "(IIIII)V"⟩, 22) := ⟨⟨by decide +kernel, by decide +kernel⟩, List.mem_of_getElem? (i := 619) (by decide +kernel), List.mem_of_getElem? (i := 797) (by decide +kernel), List.mem_of_getElem? (i := 798) (by decide +kernel)⟩
theorem lw_p84 : lw_okq (⟨"AreaRoutersModel", "copy", "(II)V"⟩, 22) := ⟨⟨by decide +kernel, by decide +kernel⟩, List.mem_of_getElem? (i := 619) (by decide +kernel), List.mem_of_getElem? (i := 804) (by decide +kernel), List.mem_of_getElem? (i := 805) (by decide +kernel)⟩
theorem lw_p85 : lw_okq (⟨"AreaRoutersModel", "own", "(III)V"⟩, 22) := ⟨⟨by decide +kernel, by decide +kernel⟩, List.mem_of_getElem? (i := 619) (by decide +kernel), List.mem_of_getElem? (i := 808) (by decide +kernel), List.mem_of_getElem? (i := 809) (by decide +kernel)⟩
theorem lw_p86 : lw_okq (⟨"AreaRoutersModel", "told", "(IIIII)V"⟩, 22) := ⟨⟨by decide +kernel, by decide +kernel⟩, List.mem_of_getElem? (i := 619) (by decide +kernel), List.mem_of_getElem? (i := 816) (by decide +kernel), List.mem_of_getElem? (i := 817) (by decide +kernel)⟩
theorem lw_p87 : lw_okq (⟨"AreaRoutersModel", "routeOf", "(II)I"⟩, 22) := ⟨⟨by decide +kernel, by decide +kernel⟩, List.mem_of_getElem? (i := 619) (by decide +kernel), List.mem_of_getElem? (i := 840) (by decide +kernel), List.mem_of_getElem? (i := 841) (by decide +kernel)⟩
theorem lw_p88 : lw_okq (⟨"AreaRoutersModel", "ways", "(II)V"⟩, 22) := ⟨⟨by decide +kernel, by decide +kernel⟩, List.mem_of_getElem? (i := 619) (by decide +kernel), List.mem_of_getElem? (i := 844) (by decide +kernel), List.mem_of_getElem? (i := 845) (by decide +kernel)⟩
theorem lw_p89 : lw_okq (⟨"AreaRoutersModel", "costs", "(II)V"⟩, 22) := ⟨⟨by decide +kernel, by decide +kernel⟩, List.mem_of_getElem? (i := 619) (by decide +kernel), List.mem_of_getElem? (i := 848) (by decide +kernel), List.mem_of_getElem? (i := 849) (by decide +kernel)⟩
theorem lw_p90 : lw_okq (⟨"AreaRoutersModel", "lives", "(III)Z"⟩, 22) := ⟨⟨by decide +kernel, by decide +kernel⟩, List.mem_of_getElem? (i := 619) (by decide +kernel), List.mem_of_getElem? (i := 852) (by decide +kernel), List.mem_of_getElem? (i := 853) (by decide +kernel)⟩
theorem lw_p91 : lw_okq (⟨"AreaRoutersModel", "linksTo", "(IIII)Z"⟩, 22) := ⟨⟨by decide +kernel, by decide +kernel⟩, List.mem_of_getElem? (i := 619) (by decide +kernel), List.mem_of_getElem? (i := 856) (by decide +kernel), List.mem_of_getElem? (i := 857) (by decide +kernel)⟩
theorem lw_p92 : lw_okq (⟨"AreaRoutersModel", "firstHops", "(II)V"⟩, 22) := ⟨⟨by decide +kernel, by decide +kernel⟩, List.mem_of_getElem? (i := 619) (by decide +kernel), List.mem_of_getElem? (i := 860) (by decide +kernel), List.mem_of_getElem? (i := 861) (by decide +kernel)⟩
theorem lw_p93 : lw_okq (⟨"AreaRoutersModel", "way", "(II)I"⟩, 22) := ⟨⟨by decide +kernel, by decide +kernel⟩, List.mem_of_getElem? (i := 619) (by decide +kernel), List.mem_of_getElem? (i := 867) (by decide +kernel), List.mem_of_getElem? (i := 868) (by decide +kernel)⟩
theorem lw_p94 : lw_okq (⟨"AreaRoutersModel", "nearest", "(III)I"⟩, 22) := ⟨⟨by decide +kernel, by decide +kernel⟩, List.mem_of_getElem? (i := 619) (by decide +kernel), List.mem_of_getElem? (i := 874) (by decide +kernel), List.mem_of_getElem? (i := 875) (by decide +kernel)⟩
def lw_privs_6 : List (MethodName × Nat) := [(⟨"AreaRoutersModel", "circuits", "(I)I"⟩, 22), (⟨"AreaRoutersModel", "die", "(II)V"⟩, 22), (⟨"AreaRoutersModel", "barredAt", "(III)I"⟩, 22), (⟨"AreaRoutersModel", "take", "(IIIII)V"⟩, 22), (⟨"AreaRoutersModel", "copy", "(II)V"⟩, 22), (⟨"AreaRoutersModel", "own", "(III)V"⟩, 22), (⟨"AreaRoutersModel", "told", "(IIIII)V"⟩, 22), (⟨"AreaRoutersModel", "routeOf", "(II)I"⟩, 22), (⟨"AreaRoutersModel", "ways", "(II)V"⟩, 22), (⟨"AreaRoutersModel", "costs", "(II)V"⟩, 22), (⟨"AreaRoutersModel", "lives", "(III)Z"⟩, 22), (⟨"AreaRoutersModel", "linksTo", "(IIII)Z"⟩, 22), (⟨"AreaRoutersModel", "firstHops", "(II)V"⟩, 22), (⟨"AreaRoutersModel", "way", "(II)I"⟩, 22), (⟨"AreaRoutersModel", "nearest", "(III)I"⟩, 22)]
theorem lw_r6 : ∀ q ∈ lw_privs_6, lw_okq q := List.forall_mem_cons.mpr ⟨lw_p80, List.forall_mem_cons.mpr ⟨lw_p81, List.forall_mem_cons.mpr ⟨lw_p82, List.forall_mem_cons.mpr ⟨lw_p83, List.forall_mem_cons.mpr ⟨lw_p84, List.forall_mem_cons.mpr ⟨lw_p85, List.forall_mem_cons.mpr ⟨lw_p86, List.forall_mem_cons.mpr ⟨lw_p87, List.forall_mem_cons.mpr ⟨lw_p88, List.forall_mem_cons.mpr ⟨lw_p89, List.forall_mem_cons.mpr ⟨lw_p90, List.forall_mem_cons.mpr ⟨lw_p91, List.forall_mem_cons.mpr ⟨lw_p92, List.forall_mem_cons.mpr ⟨lw_p93, List.forall_mem_cons.mpr ⟨lw_p94, fun _ h => absurd h List.not_mem_nil⟩⟩⟩⟩⟩⟩⟩⟩⟩⟩⟩⟩⟩⟩⟩
def lw_privs : List (MethodName × Nat) := lw_privs_1 ++ (lw_privs_2 ++ (lw_privs_3 ++ (lw_privs_4 ++ (lw_privs_5 ++ (lw_privs_6)))))
def lw_tbl : List Cond := k2_sels lw_privs ++ tables_1
theorem lw_privs_ok : ∀ q ∈ lw_privs, lw_okq q := by
  show ∀ q ∈ lw_privs_1 ++ (lw_privs_2 ++ (lw_privs_3 ++ (lw_privs_4 ++ (lw_privs_5 ++ (lw_privs_6))))), lw_okq q
  exact List.forall_mem_append.mpr ⟨lw_r1, List.forall_mem_append.mpr ⟨lw_r2, List.forall_mem_append.mpr ⟨lw_r3, List.forall_mem_append.mpr ⟨lw_r4, List.forall_mem_append.mpr ⟨lw_r5, lw_r6⟩⟩⟩⟩⟩
end
section
/-! MY OWN LAYER: memories as functions, one judgement for a walk, its rows. -/
abbrev jz_M : Type := Nat → Nat → Int32
abbrev jz_X : Type := Program × Launch × Env × Room × State × MethodId × Array Value × List Frame × Method × Code
abbrev jz_G : Type := va_G × List vw_C × List (ClassId × FieldType) × Nat × (Nat → Nat) × (Nat → (Nat → Int32) → va_E)
abbrev xz_p (X : jz_X) : Program := X.1
abbrev xz_l (X : jz_X) : Launch := X.2.1
abbrev xz_e (X : jz_X) : Env := X.2.2.1
abbrev xz_R (X : jz_X) : Room := X.2.2.2.1
abbrev xz_s (X : jz_X) : State := X.2.2.2.2.1
abbrev xz_m (X : jz_X) : MethodId := X.2.2.2.2.2.1
abbrev xz_a (X : jz_X) : Array Value := X.2.2.2.2.2.2.1
abbrev xz_b (X : jz_X) : List Frame := X.2.2.2.2.2.2.2.1
abbrev xz_t (X : jz_X) : Method := X.2.2.2.2.2.2.2.2.1
abbrev xz_c (X : jz_X) : Code := X.2.2.2.2.2.2.2.2.2
abbrev gz_D (G : jz_G) : va_G := G.1
abbrev gz_cl (G : jz_G) : List vw_C := G.2.1
abbrev gz_ty (G : jz_G) : List (ClassId × FieldType) := G.2.2.1
abbrev gz_N (G : jz_G) : Nat := G.2.2.2.1
abbrev gz_ad (G : jz_G) : Nat → Nat := G.2.2.2.2.1
abbrev gz_E (G : jz_G) : Nat → (Nat → Int32) → va_E := G.2.2.2.2.2
/-- the world of a memory -/
def jz_w (G : jz_G) (m : jz_M) : va_W := (List.range (gz_N G)).map (fun k => (gz_ad G k, gz_E G k (m k)))
def jz_F (G : jz_G) : Nat → Prop := fun q => ∃ k, k < gz_N G ∧ q = gz_ad G k
def jz_I (G : jz_G) : Prop := ∀ i j, i < gz_N G → j < gz_N G → gz_ad G i = gz_ad G j → i = j
theorem jz_w_at {G : jz_G} {m : jz_M} {k : Nat} (h : k < gz_N G) : (jz_w G m)[k]? = some (gz_ad G k, gz_E G k (m k)) := by
  simp [jz_w, List.getElem?_range h]
theorem jz_w_of {G : jz_G} {m : jz_M} {k : Nat} {q : Nat × va_E} (h : (jz_w G m)[k]? = some q) : k < gz_N G ∧ q = (gz_ad G k, gz_E G k (m k)) := by
  have hl : k < gz_N G := by
    have := (List.getElem?_eq_some_iff.mp h).1
    simpa [jz_w] using this
  exact ⟨hl, (Option.some.inj ((jz_w_at hl).symm.trans h)).symm⟩
theorem jz_w_D {G : jz_G} {m : jz_M} (hI : jz_I G) : va_D (jz_F G) (jz_w G m) := by
  refine ⟨fun i j x y hx hy hxy => ?_, fun k q hk => ?_⟩
  · obtain ⟨h1, rfl⟩ := jz_w_of hx
    obtain ⟨h2, rfl⟩ := jz_w_of hy
    exact hI i j h1 h2 hxy
  · obtain ⟨h1, rfl⟩ := jz_w_of hk
    exact ⟨k, h1, rfl⟩
/-- a write: one int of one cell -/
def jz_up (m : jz_M) (k i : Nat) (v : Int32) : jz_M := va_up m k (upd (m k) i v)
theorem jz_w_set {G : jz_G} {m : jz_M} {k : Nat} (f : Nat → Int32) : (jz_w G m).set k (gz_ad G k, gz_E G k f) = jz_w G (va_up m k f) := by
  apply List.ext_getElem?
  intro j
  by_cases hl : j < gz_N G
  · rw [jz_w_at hl]
    by_cases hj : j = k
    · subst hj
      rw [List.getElem?_set_self (by simpa [jz_w] using hl), va_up_self]
    · rw [List.getElem?_set_ne (Ne.symm hj), jz_w_at hl, va_up_ne _ _ hj]
  · rw [List.getElem?_eq_none (by simp [jz_w]; omega), List.getElem?_eq_none (by simp [jz_w]; omega)]
-- the tables' words: those that a callee may be given as words, and those of nest mates, which a world carries
def gw_ok (w : Cond) : Bool := (w.onTables && w.keeps) || (match w with | .arrayClass _ => true | _ => false)
def gw_ne (w : Cond) : Bool := match w with | .fieldLinkNest .. => true | .methodLinkNest .. => true | _ => false
def gw_tbl : List Cond := lw_tbl.filter gw_ok
def nw_tbl : List Cond := lw_tbl.filter gw_ne
theorem gw_in {w : Cond} (h : w ∈ lw_tbl) (hk : gw_ok w = true) : w ∈ gw_tbl := List.mem_filter.mpr ⟨h, hk⟩
theorem nw_in {w : Cond} (h : w ∈ lw_tbl) (hk : gw_ne w = true) : w ∈ nw_tbl := List.mem_filter.mpr ⟨h, hk⟩
def nw_ok (U : State) : Prop := ∀ w ∈ nw_tbl, va_Nw w U
theorem nw_ok.warm {s U : State} (hW : s.WarmedH U.vm) (h : nw_ok s) : nw_ok U := by
  intro w hw
  have h1 := h w hw
  have h2 := (List.mem_filter.mp hw).2
  cases w <;> first | exact va_Nw.warmF hW h1 | exact va_Nw.warmM hW h1 | (exfalso; simp [gw_ne] at h2)
theorem nw_ok.same {s U : State} (hv : s.vm = U.vm) (h : nw_ok s) : nw_ok U := by
  intro w hw
  have h1 := h w hw
  have h2 := (List.mem_filter.mp hw).2
  cases w <;> first | exact va_Nw.same rfl hv h1 | (exfalso; simp [gw_ne] at h2)
theorem gw_good {cd : Cond} (hc : cd ∈ gw_tbl) : GoodIn gw_tbl (cd :: gw_tbl) := by
  have key : ∀ w ∈ gw_tbl, (w.onTables && w.keeps) = true ∨ ∃ ty, w = .arrayClass ty := by
    intro w hw
    have h2 := (List.mem_filter.mp hw).2
    unfold gw_ok at h2
    cases hb : (w.onTables && w.keeps) with
    | true => exact Or.inl rfl
    | false =>
      rw [hb, Bool.false_or] at h2
      cases w <;> first | exact Or.inr ⟨_, rfl⟩ | (exfalso; simp at h2)
  intro w hw
  rcases List.mem_cons.mp hw with rfl | hw
  · exact ⟨hc, key _ hc⟩
  · exact ⟨hw, key _ hw⟩
/-- the world of a memory holds at a state -/
def jz_W (G : jz_G) (m : jz_M) (U : State) : Prop := va_P (gz_D G) (gz_cl G) (jz_w G m) U.heap ∧ va_K (gz_D G) (gz_cl G) (gz_ty G) U ∧ nw_ok U
/-- what a walk knows of its method -/
def jz_C (X : jz_X) (nL : Nat) (cc : ByteArray) (own : String) (ret : Option FieldType) (rm0 : Room) (G : jz_G) : Prop :=
  (xz_p X).tables.exec = Jvm.exec ∧ (xz_c X).code = cc ∧ (xz_c X).maxLocals = nL ∧ (xz_s X).vm.findClass own = some (xz_m X).cls ∧ (∀ w ∈ gw_tbl, w.before (xz_a X) (xz_s X) = true) ∧ va_K (gz_D G) (gz_cl G) (gz_ty G) (xz_s X) ∧ jz_I G ∧ (xz_t X).locks = false ∧ (xz_t X).sig.returnType = ret ∧ xz_R X = rm0 ∧ nw_ok (xz_s X)
/-- THE JUDGEMENT: at pc, with these locals and this stack, over any heap that holds the memory, the walk comes to Q -/
def jz_J (X : jz_X) (nL : Nat) (G : jz_G) (Q : State → Prop) (m : jz_M) (lv : List (Nat × Value)) (pc : Nat) (st : List Value) : Prop :=
  ∀ (H : Heap) (locs : List Loc) (ls : Array Slot), va_P (gz_D G) (gz_cl G) (jz_w G m) H → va_S (jz_F G) (xz_s X).heap H locs → lv_has ls nL lv → W (xz_p X) (xz_l X) (xz_e X) (xz_R X) (xz_s X) (xz_m X) (xz_a X) (xz_b X) (xz_t X) (xz_c X) H locs 0 0 Q (F0 (xz_m X) pc ls st)
def jz_q (X : jz_X) (G : jz_G) (ov : Option Value) (m : jz_M) : State → Prop := MQ (xz_b X) (fun _ st o t => o = .returned ov ∧ jz_W G m t ∧ va_F (jz_F G) st t) (xz_a X) (xz_s X) 0 0 (jz_F G)
/-- A CONTRACT: from a world with m, with these arguments, y returns ov, in a world with m'; nothing else changes, nothing is made -/
def jz_m (l : Launch) (y : MethodName) (cd : Cond) (rm : Room) (G : jz_G) (as : List Value) (m : jz_M) (ov : Option Value) (m' : jz_M) : Prop :=
  Met l y (cd :: gw_tbl) rm (va_Pc as (jz_W G m)) (fun _ st o t => o = .returned ov ∧ jz_W G m' t ∧ va_F (jz_F G) st t) 0 0 (jz_F G)
-- small words for the decompiled functions
def jz_n {α β : Type} (e : α) (k : α → β) : β := k e
theorem jz_ne {α β : Type} {e : α} {k : α → β} {r : β} (h : jz_n e k = r) : ∃ x, x = e ∧ k x = r := ⟨e, rfl, h⟩
theorem jz_b {α β : Type} {o : Option α} {k : α → Option β} {r : β} (h : o.bind k = some r) : ∃ v, o = some v ∧ k v = some r := by
  cases o with
  | none => cases h
  | some v => exact ⟨v, rfl, h⟩
def jz_ix (n : Nat) (i : Int32) : Option Nat := if i < 0 ∨ n ≤ i.toNatClampNeg then none else some i.toNatClampNeg
theorem jz_ix_in {n j : Nat} {i : Int32} (h : jz_ix n i = some j) : vp_in i n ∧ i.toNatClampNeg = j ∧ j < n := by
  unfold jz_ix at h
  by_cases hc : i < 0 ∨ n ≤ i.toNatClampNeg
  · rw [if_pos hc] at h; cases h
  · rw [if_neg hc] at h
    have h2 := Option.some.inj h
    refine ⟨hc, h2, ?_⟩
    have h3 : ¬ n ≤ i.toNatClampNeg := fun q => hc (Or.inr q)
    omega
theorem jz_t {c : Prop} [Decidable c] {α : Type} {a b r : α} (hc : c) (h : (if c then a else b) = r) : a = r := by rw [if_pos hc] at h; exact h
theorem jz_f {c : Prop} [Decidable c] {α : Type} {a b r : α} (hc : ¬ c) (h : (if c then a else b) = r) : b = r := by rw [if_neg hc] at h; exact h
-- locals
def lz_q : List (Nat × Value) → Nat → Option Value
  | [], _ => none
  | (j, v) :: t, i => if j = i then some v else lz_q t i
theorem lz_q_mem {v : Value} {i : Nat} : ∀ {lv : List (Nat × Value)}, lz_q lv i = some v → (i, v) ∈ lv
  | [], h => by simp [lz_q] at h
  | (j, w) :: t, h => by
    unfold lz_q at h
    by_cases hj : j = i
    · rw [if_pos hj] at h; cases h; subst hj; exact List.mem_cons_self
    · rw [if_neg hj] at h; exact List.mem_cons_of_mem _ (lz_q_mem h)
theorem lz_at {ls : Array Slot} {nL : Nat} {lv : List (Nat × Value)} {i : Nat} {v : Value} (hl : lv_has ls nL lv) (h : lz_q lv i = some v) : ls[i]? = some (.val v) := hl.2.2 (i, v) (lz_q_mem h)
def lz_s : List (Nat × Value) → Nat → Value → List (Nat × Value)
  | [], i, v => [(i, v)]
  | (j, w) :: t, i, v => if j = i then (i, v) :: t.filter (fun q => !(q.1 == i)) else (j, w) :: lz_s t i v
theorem lz_s_mem {v : Value} {i : Nat} {q : Nat × Value} : ∀ {lv : List (Nat × Value)}, q ∈ lz_s lv i v → q = (i, v) ∨ (q ∈ lv ∧ q.1 ≠ i)
  | [], h => by simp [lz_s] at h; exact Or.inl h
  | (j, w) :: t, h => by
    unfold lz_s at h
    by_cases hj : j = i
    · rw [if_pos hj] at h
      rcases List.mem_cons.mp h with h | h
      · exact Or.inl h
      · obtain ⟨h1, h2⟩ := List.mem_filter.mp h
        exact Or.inr ⟨List.mem_cons_of_mem _ h1, by simpa using h2⟩
    · rw [if_neg hj] at h
      rcases List.mem_cons.mp h with h | h
      · subst h; exact Or.inr ⟨List.mem_cons_self, hj⟩
      · rcases lz_s_mem h with h | ⟨h1, h2⟩
        · exact Or.inl h
        · exact Or.inr ⟨List.mem_cons_of_mem _ h1, h2⟩
/-- all locals are of one word -/
def lz_1 (lv : List (Nat × Value)) : Bool := lv.all (fun q => q.2.category == 1)
theorem lz_store {ls : Array Slot} {nL : Nat} {lv lv' : List (Nat × Value)} {i : Nat} {v : Value} (h1 : lz_1 lv = true) (hl : lz_s lv i v = lv')
    (h : lv_has ls nL ((i, v) :: lv.filter (fun q => !(q.1 == i) && !(q.1 + 1 == i && q.2.category == 2)))) : lv_has ls nL lv' := by
  subst hl
  refine ⟨h.1, h.2.1, fun q hq => ?_⟩
  rcases lz_s_mem hq with rfl | ⟨h2, h3⟩
  · exact h.2.2 _ List.mem_cons_self
  · refine h.2.2 _ (List.mem_cons_of_mem _ (List.mem_filter.mpr ⟨h2, ?_⟩))
    have h4 := List.all_eq_true.mp h1 q h2
    simp at h4
    simp [h3, h4]
end
section
/-! the judgement's rows, an instruction each -/
theorem jr_iadd {X : jz_X} {nL : Nat} {cc : ByteArray} {own : String} {ret : Option FieldType} {rm0 : Room} {G : jz_G} {Q : State → Prop} {m : jz_M} {lv : List (Nat × Value)} {st : List Value} (pc : Nat) {x y : Int32} (C : jz_C X nL cc own ret rm0 G) (d : decode cc pc = .ok (.iadd, 1)) (k : jz_J X nL G Q m lv (pc + 1) (.int (x + y) :: st)) : jz_J X nL G Q m lv pc (.int y :: .int x :: st) := fun H locs ls hP hS hl => lv_iadd C.1 C.2.1 d (k H locs ls hP hS hl)
theorem jr_isub {X : jz_X} {nL : Nat} {cc : ByteArray} {own : String} {ret : Option FieldType} {rm0 : Room} {G : jz_G} {Q : State → Prop} {m : jz_M} {lv : List (Nat × Value)} {st : List Value} (pc : Nat) {x y : Int32} (C : jz_C X nL cc own ret rm0 G) (d : decode cc pc = .ok (.isub, 1)) (k : jz_J X nL G Q m lv (pc + 1) (.int (x - y) :: st)) : jz_J X nL G Q m lv pc (.int y :: .int x :: st) := fun H locs ls hP hS hl => lv_isub C.1 C.2.1 d (k H locs ls hP hS hl)
theorem jr_imul {X : jz_X} {nL : Nat} {cc : ByteArray} {own : String} {ret : Option FieldType} {rm0 : Room} {G : jz_G} {Q : State → Prop} {m : jz_M} {lv : List (Nat × Value)} {st : List Value} (pc : Nat) {x y : Int32} (C : jz_C X nL cc own ret rm0 G) (d : decode cc pc = .ok (.imul, 1)) (k : jz_J X nL G Q m lv (pc + 1) (.int (x * y) :: st)) : jz_J X nL G Q m lv pc (.int y :: .int x :: st) := fun H locs ls hP hS hl => lv_imul C.1 C.2.1 d (k H locs ls hP hS hl)
theorem jr_iand {X : jz_X} {nL : Nat} {cc : ByteArray} {own : String} {ret : Option FieldType} {rm0 : Room} {G : jz_G} {Q : State → Prop} {m : jz_M} {lv : List (Nat × Value)} {st : List Value} (pc : Nat) {x y : Int32} (C : jz_C X nL cc own ret rm0 G) (d : decode cc pc = .ok (.iand, 1)) (k : jz_J X nL G Q m lv (pc + 1) (.int (x &&& y) :: st)) : jz_J X nL G Q m lv pc (.int y :: .int x :: st) := fun H locs ls hP hS hl => lv_iand C.1 C.2.1 d (k H locs ls hP hS hl)
theorem jr_ior {X : jz_X} {nL : Nat} {cc : ByteArray} {own : String} {ret : Option FieldType} {rm0 : Room} {G : jz_G} {Q : State → Prop} {m : jz_M} {lv : List (Nat × Value)} {st : List Value} (pc : Nat) {x y : Int32} (C : jz_C X nL cc own ret rm0 G) (d : decode cc pc = .ok (.ior, 1)) (k : jz_J X nL G Q m lv (pc + 1) (.int (x ||| y) :: st)) : jz_J X nL G Q m lv pc (.int y :: .int x :: st) := fun H locs ls hP hS hl => lv_ior C.1 C.2.1 d (k H locs ls hP hS hl)
theorem jr_ixor {X : jz_X} {nL : Nat} {cc : ByteArray} {own : String} {ret : Option FieldType} {rm0 : Room} {G : jz_G} {Q : State → Prop} {m : jz_M} {lv : List (Nat × Value)} {st : List Value} (pc : Nat) {x y : Int32} (C : jz_C X nL cc own ret rm0 G) (d : decode cc pc = .ok (.ixor, 1)) (k : jz_J X nL G Q m lv (pc + 1) (.int (x ^^^ y) :: st)) : jz_J X nL G Q m lv pc (.int y :: .int x :: st) := fun H locs ls hP hS hl => lv_ixor C.1 C.2.1 d (k H locs ls hP hS hl)
theorem jr_ishl {X : jz_X} {nL : Nat} {cc : ByteArray} {own : String} {ret : Option FieldType} {rm0 : Room} {G : jz_G} {Q : State → Prop} {m : jz_M} {lv : List (Nat × Value)} {st : List Value} (pc : Nat) {x y : Int32} (C : jz_C X nL cc own ret rm0 G) (d : decode cc pc = .ok (.ishl, 1)) (k : jz_J X nL G Q m lv (pc + 1) (.int (x <<< (y &&& 31)) :: st)) : jz_J X nL G Q m lv pc (.int y :: .int x :: st) := fun H locs ls hP hS hl => lv_ishl C.1 C.2.1 d (k H locs ls hP hS hl)
theorem jr_ishr {X : jz_X} {nL : Nat} {cc : ByteArray} {own : String} {ret : Option FieldType} {rm0 : Room} {G : jz_G} {Q : State → Prop} {m : jz_M} {lv : List (Nat × Value)} {st : List Value} (pc : Nat) {x y : Int32} (C : jz_C X nL cc own ret rm0 G) (d : decode cc pc = .ok (.ishr, 1)) (k : jz_J X nL G Q m lv (pc + 1) (.int (x >>> (y &&& 31)) :: st)) : jz_J X nL G Q m lv pc (.int y :: .int x :: st) := fun H locs ls hP hS hl => lv_ishr C.1 C.2.1 d (k H locs ls hP hS hl)
theorem jr_idiv {X : jz_X} {nL : Nat} {cc : ByteArray} {own : String} {ret : Option FieldType} {rm0 : Room} {G : jz_G} {Q : State → Prop} {m : jz_M} {lv : List (Nat × Value)} {st : List Value} (pc : Nat) {x y : Int32} (C : jz_C X nL cc own ret rm0 G) (d : decode cc pc = .ok (.idiv, 1)) (hne : ¬ y = 0) (k : jz_J X nL G Q m lv (pc + 1) (.int (x / y) :: st)) : jz_J X nL G Q m lv pc (.int y :: .int x :: st) := fun H locs ls hP hS hl => lv_idiv C.1 C.2.1 d hne (k H locs ls hP hS hl)
theorem jr_irem {X : jz_X} {nL : Nat} {cc : ByteArray} {own : String} {ret : Option FieldType} {rm0 : Room} {G : jz_G} {Q : State → Prop} {m : jz_M} {lv : List (Nat × Value)} {st : List Value} (pc : Nat) {x y : Int32} (C : jz_C X nL cc own ret rm0 G) (d : decode cc pc = .ok (.irem, 1)) (hne : ¬ y = 0) (k : jz_J X nL G Q m lv (pc + 1) (.int (x - x / y * y) :: st)) : jz_J X nL G Q m lv pc (.int y :: .int x :: st) := fun H locs ls hP hS hl => lv_irem C.1 C.2.1 d hne (k H locs ls hP hS hl)
theorem jr_iconst {X : jz_X} {nL : Nat} {cc : ByteArray} {own : String} {ret : Option FieldType} {rm0 : Room} {G : jz_G} {Q : State → Prop} {m : jz_M} {lv : List (Nat × Value)} {st : List Value} (pc : Nat) {n : Int} (v : Int32) (C : jz_C X nL cc own ret rm0 G) (d : decode cc pc = .ok (.iconst n, 1)) (hv : Int32.ofInt n = v) (k : jz_J X nL G Q m lv (pc + 1) (.int v :: st)) : jz_J X nL G Q m lv pc st := fun H locs ls hP hS hl => lv_iconst C.1 C.2.1 d hv (k H locs ls hP hS hl)
theorem jr_bipush {X : jz_X} {nL : Nat} {cc : ByteArray} {own : String} {ret : Option FieldType} {rm0 : Room} {G : jz_G} {Q : State → Prop} {m : jz_M} {lv : List (Nat × Value)} {st : List Value} (pc : Nat) {n : Int} (v : Int32) (C : jz_C X nL cc own ret rm0 G) (d : decode cc pc = .ok (.bipush n, 2)) (hv : (Int8.ofInt n).toInt32 = v) (k : jz_J X nL G Q m lv (pc + 2) (.int v :: st)) : jz_J X nL G Q m lv pc st := fun H locs ls hP hS hl => lv_bipush C.1 C.2.1 d hv (k H locs ls hP hS hl)
theorem jr_sipush {X : jz_X} {nL : Nat} {cc : ByteArray} {own : String} {ret : Option FieldType} {rm0 : Room} {G : jz_G} {Q : State → Prop} {m : jz_M} {lv : List (Nat × Value)} {st : List Value} (pc : Nat) {n : Int} (v : Int32) (C : jz_C X nL cc own ret rm0 G) (d : decode cc pc = .ok (.sipush n, 3)) (hv : (Int16.ofInt n).toInt32 = v) (k : jz_J X nL G Q m lv (pc + 3) (.int v :: st)) : jz_J X nL G Q m lv pc st := fun H locs ls hP hS hl => lv_sipush C.1 C.2.1 d hv (k H locs ls hP hS hl)
theorem jr_ldc {X : jz_X} {nL : Nat} {cc : ByteArray} {own : String} {ret : Option FieldType} {rm0 : Room} {G : jz_G} {Q : State → Prop} {m : jz_M} {lv : List (Nat × Value)} {st : List Value} (pc : Nat) {ix : Nat} (v : Int32) (C : jz_C X nL cc own ret rm0 G) (d : decode cc pc = .ok (.ldc ix, 2)) (hc : Cond.constant own ix v ∈ lw_tbl) (k : jz_J X nL G Q m lv (pc + 2) (.int v :: st)) : jz_J X nL G Q m lv pc st := fun H locs ls hP hS hl => lv_ldc C.1 C.2.1 C.2.2.2.1 (C.2.2.2.2.1 _ (gw_in hc (by first | rfl | simp [gw_ok, Cond.onTables, Cond.keeps, Cond.steady]))) d (k H locs ls hP hS hl)
theorem jr_iload_n {X : jz_X} {nL : Nat} {cc : ByteArray} {own : String} {ret : Option FieldType} {rm0 : Room} {G : jz_G} {Q : State → Prop} {m : jz_M} {lv : List (Nat × Value)} {st : List Value} (pc : Nat) {i : Fin 4} {x : Int32} (C : jz_C X nL cc own ret rm0 G) (d : decode cc pc = .ok (.iload_n i, 1)) (hq : lz_q lv i = some (.int x)) (k : jz_J X nL G Q m lv (pc + 1) (.int x :: st)) : jz_J X nL G Q m lv pc st := fun H locs ls hP hS hl => lv_iload_n C.1 C.2.1 d rfl (lz_at hl hq) (k H locs ls hP hS hl)
theorem jr_iload {X : jz_X} {nL : Nat} {cc : ByteArray} {own : String} {ret : Option FieldType} {rm0 : Room} {G : jz_G} {Q : State → Prop} {m : jz_M} {lv : List (Nat × Value)} {st : List Value} (pc : Nat) {i : Nat} {x : Int32} (C : jz_C X nL cc own ret rm0 G) (d : decode cc pc = .ok (.iload i, 2)) (hq : lz_q lv i = some (.int x)) (k : jz_J X nL G Q m lv (pc + 2) (.int x :: st)) : jz_J X nL G Q m lv pc st := fun H locs ls hP hS hl => lv_iload C.1 C.2.1 d (lz_at hl hq) (k H locs ls hP hS hl)
theorem jr_istore_n {X : jz_X} {nL : Nat} {cc : ByteArray} {own : String} {ret : Option FieldType} {rm0 : Room} {G : jz_G} {Q : State → Prop} {m : jz_M} {lv : List (Nat × Value)} {st : List Value} (pc : Nat) {i : Fin 4} {x : Int32} (lv' : List (Nat × Value)) (C : jz_C X nL cc own ret rm0 G) (d : decode cc pc = .ok (.istore_n i, 1)) (h1 : lz_1 lv = true) (hn : (i : Nat) < nL) (hq : lz_s lv i (.int x) = lv') (k : jz_J X nL G Q m lv' (pc + 1) st) : jz_J X nL G Q m lv pc (.int x :: st) := fun H locs ls hP hS hl => lv_istore_n C.1 C.2.1 d rfl hl hn rfl (fun ls2 hl2 => k H locs ls2 hP hS (lz_store h1 hq hl2))
theorem jr_istore {X : jz_X} {nL : Nat} {cc : ByteArray} {own : String} {ret : Option FieldType} {rm0 : Room} {G : jz_G} {Q : State → Prop} {m : jz_M} {lv : List (Nat × Value)} {st : List Value} (pc : Nat) {i : Nat} {x : Int32} (lv' : List (Nat × Value)) (C : jz_C X nL cc own ret rm0 G) (d : decode cc pc = .ok (.istore i, 2)) (h1 : lz_1 lv = true) (hn : i < nL) (hq : lz_s lv i (.int x) = lv') (k : jz_J X nL G Q m lv' (pc + 2) st) : jz_J X nL G Q m lv pc (.int x :: st) := fun H locs ls hP hS hl => lv_istore C.1 C.2.1 d hl hn rfl (fun ls2 hl2 => k H locs ls2 hP hS (lz_store h1 hq hl2))
theorem jr_aload_n {X : jz_X} {nL : Nat} {cc : ByteArray} {own : String} {ret : Option FieldType} {rm0 : Room} {G : jz_G} {Q : State → Prop} {m : jz_M} {lv : List (Nat × Value)} {st : List Value} (pc : Nat) {i : Fin 4} {x : Nat} (C : jz_C X nL cc own ret rm0 G) (d : decode cc pc = .ok (.aload_n i, 1)) (hq : lz_q lv i = some (.ref x)) (k : jz_J X nL G Q m lv (pc + 1) (.ref x :: st)) : jz_J X nL G Q m lv pc st := fun H locs ls hP hS hl => lv_aload_n C.1 C.2.1 d rfl (lz_at hl hq) (k H locs ls hP hS hl)
theorem jr_aload {X : jz_X} {nL : Nat} {cc : ByteArray} {own : String} {ret : Option FieldType} {rm0 : Room} {G : jz_G} {Q : State → Prop} {m : jz_M} {lv : List (Nat × Value)} {st : List Value} (pc : Nat) {i : Nat} {x : Nat} (C : jz_C X nL cc own ret rm0 G) (d : decode cc pc = .ok (.aload i, 2)) (hq : lz_q lv i = some (.ref x)) (k : jz_J X nL G Q m lv (pc + 2) (.ref x :: st)) : jz_J X nL G Q m lv pc st := fun H locs ls hP hS hl => lv_aload C.1 C.2.1 d (lz_at hl hq) (k H locs ls hP hS hl)
theorem jr_astore_n {X : jz_X} {nL : Nat} {cc : ByteArray} {own : String} {ret : Option FieldType} {rm0 : Room} {G : jz_G} {Q : State → Prop} {m : jz_M} {lv : List (Nat × Value)} {st : List Value} (pc : Nat) {i : Fin 4} {x : Nat} (lv' : List (Nat × Value)) (C : jz_C X nL cc own ret rm0 G) (d : decode cc pc = .ok (.astore_n i, 1)) (h1 : lz_1 lv = true) (hn : (i : Nat) < nL) (hq : lz_s lv i (.ref x) = lv') (k : jz_J X nL G Q m lv' (pc + 1) st) : jz_J X nL G Q m lv pc (.ref x :: st) := fun H locs ls hP hS hl => lv_astore_n C.1 C.2.1 d rfl hl hn rfl (fun ls2 hl2 => k H locs ls2 hP hS (lz_store h1 hq hl2))
theorem jr_astore {X : jz_X} {nL : Nat} {cc : ByteArray} {own : String} {ret : Option FieldType} {rm0 : Room} {G : jz_G} {Q : State → Prop} {m : jz_M} {lv : List (Nat × Value)} {st : List Value} (pc : Nat) {i : Nat} {x : Nat} (lv' : List (Nat × Value)) (C : jz_C X nL cc own ret rm0 G) (d : decode cc pc = .ok (.astore i, 2)) (h1 : lz_1 lv = true) (hn : i < nL) (hq : lz_s lv i (.ref x) = lv') (k : jz_J X nL G Q m lv' (pc + 2) st) : jz_J X nL G Q m lv pc (.ref x :: st) := fun H locs ls hP hS hl => lv_astore C.1 C.2.1 d hl hn rfl (fun ls2 hl2 => k H locs ls2 hP hS (lz_store h1 hq hl2))
theorem lz_mem_at {lv : List (Nat × Value)} {i : Nat} {v : Value} (h : lz_q lv i = some v) : ∃ k : Nat, lv[k]? = some (i, v) := List.getElem?_of_mem (lz_q_mem h)
theorem jr_iinc {X : jz_X} {nL : Nat} {cc : ByteArray} {own : String} {ret : Option FieldType} {rm0 : Room} {G : jz_G} {Q : State → Prop} {m : jz_M} {lv : List (Nat × Value)} {st : List Value} (pc : Nat) {i : Nat} {n : Int} {x : Int32} {v : Int32} (lv' : List (Nat × Value)) (C : jz_C X nL cc own ret rm0 G) (d : decode cc pc = .ok (.iinc i n, 3)) (h1 : lz_1 lv = true) (hn : i < nL) (hx : lz_q lv i = some (.int x)) (hv : v = x + Int32.ofInt n) (hq : lz_s lv i (.int v) = lv') (k : jz_J X nL G Q m lv' (pc + 3) st) : jz_J X nL G Q m lv pc st := fun H locs ls hP hS hl => by
  obtain ⟨q, hk⟩ := lz_mem_at hx
  exact lv_iinc C.1 C.2.1 d hl hk hv.symm hn rfl (fun ls2 hl2 => k H locs ls2 hP hS (lz_store h1 hq hl2))
theorem jr_dup {X : jz_X} {nL : Nat} {cc : ByteArray} {own : String} {ret : Option FieldType} {rm0 : Room} {G : jz_G} {Q : State → Prop} {m : jz_M} {lv : List (Nat × Value)} {st : List Value} (pc : Nat) {v : Value} (C : jz_C X nL cc own ret rm0 G) (d : decode cc pc = .ok (.dup, 1)) (h1 : v.category = 1) (k : jz_J X nL G Q m lv (pc + 1) (v :: v :: st)) : jz_J X nL G Q m lv pc (v :: st) := fun H locs ls hP hS hl => lv_dup C.1 C.2.1 d h1 (k H locs ls hP hS hl)
theorem jr_pop {X : jz_X} {nL : Nat} {cc : ByteArray} {own : String} {ret : Option FieldType} {rm0 : Room} {G : jz_G} {Q : State → Prop} {m : jz_M} {lv : List (Nat × Value)} {st : List Value} (pc : Nat) {v : Value} (C : jz_C X nL cc own ret rm0 G) (d : decode cc pc = .ok (.pop, 1)) (h1 : v.category = 1) (k : jz_J X nL G Q m lv (pc + 1) st) : jz_J X nL G Q m lv pc (v :: st) := fun H locs ls hP hS hl => lv_pop C.1 C.2.1 d h1 (k H locs ls hP hS hl)
theorem jr_dup2 {X : jz_X} {nL : Nat} {cc : ByteArray} {own : String} {ret : Option FieldType} {rm0 : Room} {G : jz_G} {Q : State → Prop} {m : jz_M} {lv : List (Nat × Value)} {st : List Value} (pc : Nat) {v w : Value} (C : jz_C X nL cc own ret rm0 G) (d : decode cc pc = .ok (.dup2, 1)) (h1 : v.category = 1) (h2 : w.category = 1) (k : jz_J X nL G Q m lv (pc + 1) (v :: w :: v :: w :: st)) : jz_J X nL G Q m lv pc (v :: w :: st) := fun H locs ls hP hS hl => lv_dup2_11 C.1 C.2.1 d h1 h2 (k H locs ls hP hS hl)
theorem jr_goto {X : jz_X} {nL : Nat} {cc : ByteArray} {own : String} {ret : Option FieldType} {rm0 : Room} {G : jz_G} {Q : State → Prop} {m : jz_M} {lv : List (Nat × Value)} {st : List Value} (pc : Nat) {off : Int} (tgt : Nat) (C : jz_C X nL cc own ret rm0 G) (d : decode cc pc = .ok (.goto off, 3)) (ht : (pc : Int) + off = (tgt : Int)) (k : jz_J X nL G Q m lv tgt st) : jz_J X nL G Q m lv pc st := fun H locs ls hP hS hl => lv_goto C.1 C.2.1 d ht (k H locs ls hP hS hl)
theorem jr_if_eq {X : jz_X} {nL : Nat} {cc : ByteArray} {own : String} {ret : Option FieldType} {rm0 : Room} {G : jz_G} {Q : State → Prop} {m : jz_M} {lv : List (Nat × Value)} {st : List Value} (pc : Nat) {x : Int32} {off : Int} (tgt : Nat) (C : jz_C X nL cc own ret rm0 G) (d : decode cc pc = .ok (.ifCond .eq off, 3)) (ht : (pc : Int) + off = (tgt : Int)) (kt : x = 0 → jz_J X nL G Q m lv tgt st) (kf : ¬ (x = 0) → jz_J X nL G Q m lv (pc + 3) st) : jz_J X nL G Q m lv pc (.int x :: st) := fun H locs ls hP hS hl => lv_if_eq C.1 C.2.1 d ht (fun q => kt q H locs ls hP hS hl) (fun q => kf q H locs ls hP hS hl)
theorem jr_icmp_eq {X : jz_X} {nL : Nat} {cc : ByteArray} {own : String} {ret : Option FieldType} {rm0 : Room} {G : jz_G} {Q : State → Prop} {m : jz_M} {lv : List (Nat × Value)} {st : List Value} (pc : Nat) {x y : Int32} {off : Int} (tgt : Nat) (C : jz_C X nL cc own ret rm0 G) (d : decode cc pc = .ok (.if_icmp .eq off, 3)) (ht : (pc : Int) + off = (tgt : Int)) (kt : x = y → jz_J X nL G Q m lv tgt st) (kf : ¬ (x = y) → jz_J X nL G Q m lv (pc + 3) st) : jz_J X nL G Q m lv pc (.int y :: .int x :: st) := fun H locs ls hP hS hl => lv_icmp_eq C.1 C.2.1 d ht (fun q => kt q H locs ls hP hS hl) (fun q => kf q H locs ls hP hS hl)
theorem jr_if_ne {X : jz_X} {nL : Nat} {cc : ByteArray} {own : String} {ret : Option FieldType} {rm0 : Room} {G : jz_G} {Q : State → Prop} {m : jz_M} {lv : List (Nat × Value)} {st : List Value} (pc : Nat) {x : Int32} {off : Int} (tgt : Nat) (C : jz_C X nL cc own ret rm0 G) (d : decode cc pc = .ok (.ifCond .ne off, 3)) (ht : (pc : Int) + off = (tgt : Int)) (kt : ¬ x = 0 → jz_J X nL G Q m lv tgt st) (kf : ¬ (¬ x = 0) → jz_J X nL G Q m lv (pc + 3) st) : jz_J X nL G Q m lv pc (.int x :: st) := fun H locs ls hP hS hl => lv_if_ne C.1 C.2.1 d ht (fun q => kt q H locs ls hP hS hl) (fun q => kf (fun h => h q) H locs ls hP hS hl)
theorem jr_icmp_ne {X : jz_X} {nL : Nat} {cc : ByteArray} {own : String} {ret : Option FieldType} {rm0 : Room} {G : jz_G} {Q : State → Prop} {m : jz_M} {lv : List (Nat × Value)} {st : List Value} (pc : Nat) {x y : Int32} {off : Int} (tgt : Nat) (C : jz_C X nL cc own ret rm0 G) (d : decode cc pc = .ok (.if_icmp .ne off, 3)) (ht : (pc : Int) + off = (tgt : Int)) (kt : ¬ x = y → jz_J X nL G Q m lv tgt st) (kf : ¬ (¬ x = y) → jz_J X nL G Q m lv (pc + 3) st) : jz_J X nL G Q m lv pc (.int y :: .int x :: st) := fun H locs ls hP hS hl => lv_icmp_ne C.1 C.2.1 d ht (fun q => kt q H locs ls hP hS hl) (fun q => kf (fun h => h q) H locs ls hP hS hl)
theorem jr_if_lt {X : jz_X} {nL : Nat} {cc : ByteArray} {own : String} {ret : Option FieldType} {rm0 : Room} {G : jz_G} {Q : State → Prop} {m : jz_M} {lv : List (Nat × Value)} {st : List Value} (pc : Nat) {x : Int32} {off : Int} (tgt : Nat) (C : jz_C X nL cc own ret rm0 G) (d : decode cc pc = .ok (.ifCond .lt off, 3)) (ht : (pc : Int) + off = (tgt : Int)) (kt : x < 0 → jz_J X nL G Q m lv tgt st) (kf : ¬ (x < 0) → jz_J X nL G Q m lv (pc + 3) st) : jz_J X nL G Q m lv pc (.int x :: st) := fun H locs ls hP hS hl => lv_if_lt C.1 C.2.1 d ht (fun q => kt q H locs ls hP hS hl) (fun q => kf q H locs ls hP hS hl)
theorem jr_icmp_lt {X : jz_X} {nL : Nat} {cc : ByteArray} {own : String} {ret : Option FieldType} {rm0 : Room} {G : jz_G} {Q : State → Prop} {m : jz_M} {lv : List (Nat × Value)} {st : List Value} (pc : Nat) {x y : Int32} {off : Int} (tgt : Nat) (C : jz_C X nL cc own ret rm0 G) (d : decode cc pc = .ok (.if_icmp .lt off, 3)) (ht : (pc : Int) + off = (tgt : Int)) (kt : x < y → jz_J X nL G Q m lv tgt st) (kf : ¬ (x < y) → jz_J X nL G Q m lv (pc + 3) st) : jz_J X nL G Q m lv pc (.int y :: .int x :: st) := fun H locs ls hP hS hl => lv_icmp_lt C.1 C.2.1 d ht (fun q => kt q H locs ls hP hS hl) (fun q => kf q H locs ls hP hS hl)
theorem jr_if_ge {X : jz_X} {nL : Nat} {cc : ByteArray} {own : String} {ret : Option FieldType} {rm0 : Room} {G : jz_G} {Q : State → Prop} {m : jz_M} {lv : List (Nat × Value)} {st : List Value} (pc : Nat) {x : Int32} {off : Int} (tgt : Nat) (C : jz_C X nL cc own ret rm0 G) (d : decode cc pc = .ok (.ifCond .ge off, 3)) (ht : (pc : Int) + off = (tgt : Int)) (kt : 0 ≤ x → jz_J X nL G Q m lv tgt st) (kf : ¬ (0 ≤ x) → jz_J X nL G Q m lv (pc + 3) st) : jz_J X nL G Q m lv pc (.int x :: st) := fun H locs ls hP hS hl => lv_if_ge C.1 C.2.1 d ht (fun q => kt q H locs ls hP hS hl) (fun q => kf q H locs ls hP hS hl)
theorem jr_icmp_ge {X : jz_X} {nL : Nat} {cc : ByteArray} {own : String} {ret : Option FieldType} {rm0 : Room} {G : jz_G} {Q : State → Prop} {m : jz_M} {lv : List (Nat × Value)} {st : List Value} (pc : Nat) {x y : Int32} {off : Int} (tgt : Nat) (C : jz_C X nL cc own ret rm0 G) (d : decode cc pc = .ok (.if_icmp .ge off, 3)) (ht : (pc : Int) + off = (tgt : Int)) (kt : y ≤ x → jz_J X nL G Q m lv tgt st) (kf : ¬ (y ≤ x) → jz_J X nL G Q m lv (pc + 3) st) : jz_J X nL G Q m lv pc (.int y :: .int x :: st) := fun H locs ls hP hS hl => lv_icmp_ge C.1 C.2.1 d ht (fun q => kt q H locs ls hP hS hl) (fun q => kf q H locs ls hP hS hl)
theorem jr_if_gt {X : jz_X} {nL : Nat} {cc : ByteArray} {own : String} {ret : Option FieldType} {rm0 : Room} {G : jz_G} {Q : State → Prop} {m : jz_M} {lv : List (Nat × Value)} {st : List Value} (pc : Nat) {x : Int32} {off : Int} (tgt : Nat) (C : jz_C X nL cc own ret rm0 G) (d : decode cc pc = .ok (.ifCond .gt off, 3)) (ht : (pc : Int) + off = (tgt : Int)) (kt : 0 < x → jz_J X nL G Q m lv tgt st) (kf : ¬ (0 < x) → jz_J X nL G Q m lv (pc + 3) st) : jz_J X nL G Q m lv pc (.int x :: st) := fun H locs ls hP hS hl => lv_if_gt C.1 C.2.1 d ht (fun q => kt q H locs ls hP hS hl) (fun q => kf q H locs ls hP hS hl)
theorem jr_icmp_gt {X : jz_X} {nL : Nat} {cc : ByteArray} {own : String} {ret : Option FieldType} {rm0 : Room} {G : jz_G} {Q : State → Prop} {m : jz_M} {lv : List (Nat × Value)} {st : List Value} (pc : Nat) {x y : Int32} {off : Int} (tgt : Nat) (C : jz_C X nL cc own ret rm0 G) (d : decode cc pc = .ok (.if_icmp .gt off, 3)) (ht : (pc : Int) + off = (tgt : Int)) (kt : y < x → jz_J X nL G Q m lv tgt st) (kf : ¬ (y < x) → jz_J X nL G Q m lv (pc + 3) st) : jz_J X nL G Q m lv pc (.int y :: .int x :: st) := fun H locs ls hP hS hl => lv_icmp_gt C.1 C.2.1 d ht (fun q => kt q H locs ls hP hS hl) (fun q => kf q H locs ls hP hS hl)
theorem jr_if_le {X : jz_X} {nL : Nat} {cc : ByteArray} {own : String} {ret : Option FieldType} {rm0 : Room} {G : jz_G} {Q : State → Prop} {m : jz_M} {lv : List (Nat × Value)} {st : List Value} (pc : Nat) {x : Int32} {off : Int} (tgt : Nat) (C : jz_C X nL cc own ret rm0 G) (d : decode cc pc = .ok (.ifCond .le off, 3)) (ht : (pc : Int) + off = (tgt : Int)) (kt : x ≤ 0 → jz_J X nL G Q m lv tgt st) (kf : ¬ (x ≤ 0) → jz_J X nL G Q m lv (pc + 3) st) : jz_J X nL G Q m lv pc (.int x :: st) := fun H locs ls hP hS hl => lv_if_le C.1 C.2.1 d ht (fun q => kt q H locs ls hP hS hl) (fun q => kf q H locs ls hP hS hl)
theorem jr_icmp_le {X : jz_X} {nL : Nat} {cc : ByteArray} {own : String} {ret : Option FieldType} {rm0 : Room} {G : jz_G} {Q : State → Prop} {m : jz_M} {lv : List (Nat × Value)} {st : List Value} (pc : Nat) {x y : Int32} {off : Int} (tgt : Nat) (C : jz_C X nL cc own ret rm0 G) (d : decode cc pc = .ok (.if_icmp .le off, 3)) (ht : (pc : Int) + off = (tgt : Int)) (kt : x ≤ y → jz_J X nL G Q m lv tgt st) (kf : ¬ (x ≤ y) → jz_J X nL G Q m lv (pc + 3) st) : jz_J X nL G Q m lv pc (.int y :: .int x :: st) := fun H locs ls hP hS hl => lv_icmp_le C.1 C.2.1 d ht (fun q => kt q H locs ls hP hS hl) (fun q => kf q H locs ls hP hS hl)
theorem jr_top {X : jz_X} {nL : Nat} {G : jz_G} {Q : State → Prop} {m : jz_M} {lv : List (Nat × Value)} {st : List Value} {pc : Nat} {x y : Int32} (h : y = x) (k : jz_J X nL G Q m lv pc (.int y :: st)) : jz_J X nL G Q m lv pc (.int x :: st) := h ▸ k
theorem jr_sub {X : jz_X} {nL : Nat} {G : jz_G} {Q : State → Prop} {m : jz_M} {lv : List (Nat × Value)} {st : List Value} {pc : Nat} {lv' : List (Nat × Value)} (ks : List Nat) (hk : lv_pick lv ks = lv') (k : jz_J X nL G Q m lv' pc st) : jz_J X nL G Q m lv pc st := fun H locs ls hP hS hl => k H locs ls hP hS (lv_sub hl ks hk)
theorem jr_mem {X : jz_X} {nL : Nat} {G : jz_G} {Q : State → Prop} {m : jz_M} {lv : List (Nat × Value)} {st : List Value} {pc : Nat} {m2 : jz_M} (h : m2 = m) (k : jz_J X nL G Q m2 lv pc st) : jz_J X nL G Q m lv pc st := h ▸ k
/-- kinds of cells -/
def iz_I (G : jz_G) (k n : Nat) : Prop := k < gz_N G ∧ ∃ (t0 : Nat) (cA : ClassId), (gz_ty G)[t0]? = some (cA, .int) ∧ ∀ f, gz_E G k f = .inl (cA, n, .inl f)
def iz_Z (G : jz_G) (k n : Nat) : Prop := k < gz_N G ∧ ∃ (t0 : Nat) (cA : ClassId), (gz_ty G)[t0]? = some (cA, .boolean) ∧ ∀ f, gz_E G k f = .inl (cA, n, .inl f)
def iz_A (G : jz_G) (k n : Nat) (Cn : String) (g : Nat → Nat) : Prop := k < gz_N G ∧ ∃ (t0 : Nat) (cA : ClassId), (gz_ty G)[t0]? = some (cA, .object Cn) ∧ ∀ f, gz_E G k f = .inl (cA, n, .inr (.inr (.inr (.inr (fun j => some (gz_ad G (g j)))))))
def iz_O (G : jz_G) (k ci : Nat) (F : (Nat → Int32) → List Value) : Prop := k < gz_N G ∧ ∀ f, gz_E G k f = .inr (ci, F f)
theorem jr_iald {X : jz_X} {nL : Nat} {cc : ByteArray} {own : String} {ret : Option FieldType} {rm0 : Room} {G : jz_G} {Q : State → Prop} {m : jz_M} {lv : List (Nat × Value)} {st : List Value} (pc : Nat) {k n j : Nat} {i : Int32} (C : jz_C X nL cc own ret rm0 G) (d : decode cc pc = .ok (.iaload, 1)) (hA : iz_I G k n) (e : jz_ix n i = some j) (kk : jz_J X nL G Q m lv (pc + 1) (.int (m k j) :: st)) : jz_J X nL G Q m lv pc (.int i :: .ref (gz_ad G k) :: st) := fun H locs ls hP hS hl => by
  obtain ⟨hk, t0, cA, ht, hE⟩ := hA
  obtain ⟨h1, h2, -⟩ := jz_ix_in e
  have hz := kk H locs ls hP hS hl
  rw [← h2] at hz
  exact va_iald C.1 C.2.1 C.2.2.2.2.2.1 hP k t0 (by rw [jz_w_at hk, hE]) ht h1 d hz
theorem jr_zald {X : jz_X} {nL : Nat} {cc : ByteArray} {own : String} {ret : Option FieldType} {rm0 : Room} {G : jz_G} {Q : State → Prop} {m : jz_M} {lv : List (Nat × Value)} {st : List Value} (pc : Nat) {k n j : Nat} {i : Int32} (C : jz_C X nL cc own ret rm0 G) (d : decode cc pc = .ok (.baload, 1)) (hA : iz_Z G k n) (e : jz_ix n i = some j) (kk : jz_J X nL G Q m lv (pc + 1) (.int (m k j) :: st)) : jz_J X nL G Q m lv pc (.int i :: .ref (gz_ad G k) :: st) := fun H locs ls hP hS hl => by
  obtain ⟨hk, t0, cA, ht, hE⟩ := hA
  obtain ⟨h1, h2, -⟩ := jz_ix_in e
  have hz := kk H locs ls hP hS hl
  rw [← h2] at hz
  exact va_zald C.1 C.2.1 C.2.2.2.2.2.1 hP k t0 (by rw [jz_w_at hk, hE]) ht h1 d hz
theorem jr_aald {X : jz_X} {nL : Nat} {cc : ByteArray} {own : String} {ret : Option FieldType} {rm0 : Room} {G : jz_G} {Q : State → Prop} {m : jz_M} {lv : List (Nat × Value)} {st : List Value} (pc : Nat) {k n j : Nat} {i : Int32} {Cn : String} {g : Nat → Nat} (C : jz_C X nL cc own ret rm0 G) (d : decode cc pc = .ok (.aaload, 1)) (hA : iz_A G k n Cn g) (e : jz_ix n i = some j) (kk : jz_J X nL G Q m lv (pc + 1) (.ref (gz_ad G (g j)) :: st)) : jz_J X nL G Q m lv pc (.int i :: .ref (gz_ad G k) :: st) := fun H locs ls hP hS hl => by
  obtain ⟨hk, t0, cA, ht, hE⟩ := hA
  obtain ⟨h1, h2, -⟩ := jz_ix_in e
  have hz := kk H locs ls hP hS hl
  rw [← h2] at hz
  exact va_aldq (f := fun j => some (gz_ad G (g j))) C.1 C.2.1 C.2.2.2.2.2.1 hP k t0 (by rw [jz_w_at hk, hE]) ht h1 d hz
theorem jr_iast {X : jz_X} {nL : Nat} {cc : ByteArray} {own : String} {ret : Option FieldType} {rm0 : Room} {G : jz_G} {Q : State → Prop} {m : jz_M} {lv : List (Nat × Value)} {st : List Value} (pc : Nat) {k n j : Nat} {i x : Int32} (C : jz_C X nL cc own ret rm0 G) (d : decode cc pc = .ok (.iastore, 1)) (hA : iz_I G k n) (e : jz_ix n i = some j) (kk : jz_J X nL G Q (jz_up m k j x) lv (pc + 1) st) : jz_J X nL G Q m lv pc (.int x :: .int i :: .ref (gz_ad G k) :: st) := fun H locs ls hP hS hl => by
  obtain ⟨hk, t0, cA, ht, hE⟩ := hA
  obtain ⟨h1, h2, -⟩ := jz_ix_in e
  refine va_iast C.1 C.2.1 C.2.2.2.2.2.1 hP (jz_w_D C.2.2.2.2.2.2.1) hS k t0 (by rw [jz_w_at hk, hE]) ht h1 d (fun H1 locs1 hP1 _ hS1 => kk H1 locs1 ls ?_ hS1 hl)
  rw [h2, ← hE, jz_w_set] at hP1
  exact hP1
theorem jr_zast {X : jz_X} {nL : Nat} {cc : ByteArray} {own : String} {ret : Option FieldType} {rm0 : Room} {G : jz_G} {Q : State → Prop} {m : jz_M} {lv : List (Nat × Value)} {st : List Value} (pc : Nat) {k n j : Nat} {i x : Int32} (C : jz_C X nL cc own ret rm0 G) (d : decode cc pc = .ok (.bastore, 1)) (hA : iz_Z G k n) (e : jz_ix n i = some j) (kk : jz_J X nL G Q (jz_up m k j (vp_nar .boolean x)) lv (pc + 1) st) : jz_J X nL G Q m lv pc (.int x :: .int i :: .ref (gz_ad G k) :: st) := fun H locs ls hP hS hl => by
  obtain ⟨hk, t0, cA, ht, hE⟩ := hA
  obtain ⟨h1, h2, -⟩ := jz_ix_in e
  refine va_zast C.1 C.2.1 C.2.2.2.2.2.1 hP (jz_w_D C.2.2.2.2.2.2.1) hS k t0 (by rw [jz_w_at hk, hE]) ht h1 d (fun H1 locs1 hP1 _ hS1 => kk H1 locs1 ls ?_ hS1 hl)
  rw [h2, ← hE, jz_w_set] at hP1
  exact hP1
theorem jr_get {X : jz_X} {nL : Nat} {cc : ByteArray} {own : String} {ret : Option FieldType} {rm0 : Room} {G : jz_G} {Q : State → Prop} {m : jz_M} {lv : List (Nat × Value)} {st : List Value} (pc : Nat) {k ci ix j Nf : Nat} {ref Cn : String} {T : u_T} {F : (Nat → Int32) → List Value} {v : Value} (C : jz_C X nL cc own ret rm0 G) (d : decode cc pc = .ok (.getfield ix, 3)) (hO : iz_O G k ci F) (hc : (gz_cl G)[ci]? = some (Cn, T, Nf)) (hin : ∀ w ∈ u_ws Cn T Nf, w ∈ gw_tbl) (hj : j < Nf) (hlink : Cond.fieldLink own ix ref (T j).2.1 (T j).2.2.1 ∈ lw_tbl) (hrf : (T j).1 = ref) (hv : (F (m k))[j]? = some v) (kk : jz_J X nL G Q m lv (pc + 3) (v :: st)) : jz_J X nL G Q m lv pc (.ref (gz_ad G k) :: st) := fun H locs ls hP hS hl => by
  subst hrf
  exact va_get C.1 C.2.1 C.2.2.2.2.1 (fun w hw => hin w hw) C.2.2.2.1 C.2.2.2.2.2.1 hP k (by rw [jz_w_at hO.1, hO.2]) hc j hj (C.2.2.2.2.1 _ (gw_in hlink (by first | rfl | simp [gw_ok, Cond.onTables, Cond.keeps, Cond.steady]))) (fun _ h9 => h9) hv d (kk H locs ls hP hS hl)
theorem jr_getN {X : jz_X} {nL : Nat} {cc : ByteArray} {own : String} {ret : Option FieldType} {rm0 : Room} {G : jz_G} {Q : State → Prop} {m : jz_M} {lv : List (Nat × Value)} {st : List Value} (pc : Nat) {k ci ix j Nf : Nat} {ref Cn host : String} {T : u_T} {F : (Nat → Int32) → List Value} {v : Value} (C : jz_C X nL cc own ret rm0 G) (d : decode cc pc = .ok (.getfield ix, 3)) (hO : iz_O G k ci F) (hc : (gz_cl G)[ci]? = some (Cn, T, Nf)) (hin : ∀ w ∈ u_ws Cn T Nf, w ∈ gw_tbl) (hj : j < Nf) (hlink : Cond.fieldLinkNest own ix ref (T j).2.1 (T j).2.2.1 host ∈ lw_tbl) (hrf : (T j).1 = ref) (hv : (F (m k))[j]? = some v) (kk : jz_J X nL G Q m lv (pc + 3) (v :: st)) : jz_J X nL G Q m lv pc (.ref (gz_ad G k) :: st) := fun H locs ls hP hS hl => by
  subst hrf
  exact va_getN C.1 C.2.1 C.2.2.2.2.1 (fun w hw => hin w hw) C.2.2.2.1 C.2.2.2.2.2.1 hP k (by rw [jz_w_at hO.1, hO.2]) hc j hj (va_Nw.use rfl (C.2.2.2.2.2.2.2.2.2.2 _ (nw_in hlink rfl))) (fun _ h9 => h9) hv d (kk H locs ls hP hS hl)
theorem jr_put {X : jz_X} {nL : Nat} {cc : ByteArray} {own : String} {ret : Option FieldType} {rm0 : Room} {G : jz_G} {Q : State → Prop} {m : jz_M} {lv : List (Nat × Value)} {st : List Value} (pc : Nat) {k ci ix j Nf q : Nat} {x : Int32} {ref Cn : String} {T : u_T} {ty0 : Nat → FieldType} {ty : FieldType} {F : (Nat → Int32) → List Value} (C : jz_C X nL cc own ret rm0 G) (d : decode cc pc = .ok (.putfield ix, 3)) (hO : iz_O G k ci F) (hc : (gz_cl G)[ci]? = some (Cn, T, Nf)) (hin : ∀ w ∈ u_ws Cn T Nf, w ∈ gw_tbl) (hty : ∀ k, k < Nf → parseFieldDescriptor (T k).2.2.1 = some (ty0 k)) (hnm : ∀ a, a < Nf → ∀ b, b < Nf → a ≠ b → (T a).2.1 ≠ (T b).2.1) (hj : j < Nf) (hlink : Cond.fieldLink own ix ref (T j).2.1 (T j).2.2.1 ∈ lw_tbl) (hrf : (T j).1 = ref) (hfin : (T j).2.2.2 = false) (hd : parseFieldDescriptor (T j).2.2.1 = some ty) (hn : narrow ty (.int x) = .int x) (hfit : fits ty (.int x) = true) (hlen : j < (F (m k)).length) (hset : (F (m k)).set j (.int x) = F (upd (m k) q x)) (kk : jz_J X nL G Q (jz_up m k q x) lv (pc + 3) st) : jz_J X nL G Q m lv pc (.int x :: .ref (gz_ad G k) :: st) := fun H locs ls hP hS hl => by
  subst hrf
  refine va_put C.1 C.2.1 C.2.2.2.2.1 hin ty0 hty hnm C.2.2.2.1 C.2.2.2.2.2.1 hP (jz_w_D C.2.2.2.2.2.2.1) hS k (by rw [jz_w_at hO.1, hO.2]) hc j hj (C.2.2.2.2.1 _ (gw_in hlink (by first | rfl | simp [gw_ok, Cond.onTables, Cond.keeps, Cond.steady]))) (fun _ h9 => h9) hfin hd hn hfit hlen d (fun H1 locs1 hP1 _ hS1 => kk H1 locs1 ls ?_ hS1 hl)
  rw [hset, ← hO.2, jz_w_set] at hP1
  exact hP1
theorem jr_putN {X : jz_X} {nL : Nat} {cc : ByteArray} {own : String} {ret : Option FieldType} {rm0 : Room} {G : jz_G} {Q : State → Prop} {m : jz_M} {lv : List (Nat × Value)} {st : List Value} (pc : Nat) {k ci ix j Nf q : Nat} {x : Int32} {host : String} {ref Cn : String} {T : u_T} {ty0 : Nat → FieldType} {ty : FieldType} {F : (Nat → Int32) → List Value} (C : jz_C X nL cc own ret rm0 G) (d : decode cc pc = .ok (.putfield ix, 3)) (hO : iz_O G k ci F) (hc : (gz_cl G)[ci]? = some (Cn, T, Nf)) (hin : ∀ w ∈ u_ws Cn T Nf, w ∈ gw_tbl) (hty : ∀ k, k < Nf → parseFieldDescriptor (T k).2.2.1 = some (ty0 k)) (hnm : ∀ a, a < Nf → ∀ b, b < Nf → a ≠ b → (T a).2.1 ≠ (T b).2.1) (hj : j < Nf) (hlink : Cond.fieldLinkNest own ix ref (T j).2.1 (T j).2.2.1 host ∈ lw_tbl) (hrf : (T j).1 = ref) (hfin : (T j).2.2.2 = false) (hd : parseFieldDescriptor (T j).2.2.1 = some ty) (hn : narrow ty (.int x) = .int x) (hfit : fits ty (.int x) = true) (hlen : j < (F (m k)).length) (hset : (F (m k)).set j (.int x) = F (upd (m k) q x)) (kk : jz_J X nL G Q (jz_up m k q x) lv (pc + 3) st) : jz_J X nL G Q m lv pc (.int x :: .ref (gz_ad G k) :: st) := fun H locs ls hP hS hl => by
  subst hrf
  refine va_putN C.1 C.2.1 C.2.2.2.2.1 hin ty0 hty hnm C.2.2.2.1 C.2.2.2.2.2.1 hP (jz_w_D C.2.2.2.2.2.2.1) hS k (by rw [jz_w_at hO.1, hO.2]) hc j hj (va_Nw.use rfl (C.2.2.2.2.2.2.2.2.2.2 _ (nw_in hlink rfl))) (fun _ h9 => h9) hfin hd hn hfit hlen d (fun H1 locs1 hP1 _ hS1 => kk H1 locs1 ls ?_ hS1 hl)
  rw [hset, ← hO.2, jz_w_set] at hP1
  exact hP1
theorem jr_iret {X : jz_X} {nL : Nat} {cc : ByteArray} {own : String} {ret : Option FieldType} {rm0 : Room} {G : jz_G} {Q : State → Prop} {m : jz_M} {lv : List (Nat × Value)} {st : List Value} (pc : Nat) {v : Int32} (C : jz_C X nL cc own ret rm0 G) (d : decode cc pc = .ok (.ireturn, 1)) (hr : ret = some .int) : jz_J X nL G (jz_q X G (some (.int v)) m) m lv pc [.int v] := fun H locs ls hP hS hl => W.iret C.1 C.2.1 (C.2.2.2.2.2.2.2.2.1.trans hr) (fun t ht hW => ⟨rfl, ⟨by rw [ht]; exact hP, va_K.moved hW.alike C.2.2.2.2.2.1, nw_ok.warm hW C.2.2.2.2.2.2.2.2.2.2⟩, hS.F ht⟩) hS.2.2 d C.2.2.2.2.2.2.2.1
theorem jr_zret {X : jz_X} {nL : Nat} {cc : ByteArray} {own : String} {ret : Option FieldType} {rm0 : Room} {G : jz_G} {Q : State → Prop} {m : jz_M} {lv : List (Nat × Value)} {st : List Value} (pc : Nat) {v : Int32} (C : jz_C X nL cc own ret rm0 G) (d : decode cc pc = .ok (.ireturn, 1)) (hr : ret = some .boolean) (hn : narrow .boolean (.int v) = .int v) : jz_J X nL G (jz_q X G (some (.int v)) m) m lv pc [.int v] := fun H locs ls hP hS hl => W.zret C.1 C.2.1 (C.2.2.2.2.2.2.2.2.1.trans hr) hn (fun t ht hW => ⟨rfl, ⟨by rw [ht]; exact hP, va_K.moved hW.alike C.2.2.2.2.2.1, nw_ok.warm hW C.2.2.2.2.2.2.2.2.2.2⟩, hS.F ht⟩) hS.2.2 d C.2.2.2.2.2.2.2.1
theorem jr_aret {X : jz_X} {nL : Nat} {cc : ByteArray} {own : String} {ret : Option FieldType} {rm0 : Room} {G : jz_G} {Q : State → Prop} {m : jz_M} {lv : List (Nat × Value)} {st : List Value} (pc : Nat) {k : Nat} {rt : FieldType} (C : jz_C X nL cc own ret rm0 G) (d : decode cc pc = .ok (.areturn, 1)) (hr : ret = some rt) (hrt : (∃ n, rt = .object n) ∨ ∃ t, rt = .array t) : jz_J X nL G (jz_q X G (some (.ref (gz_ad G k))) m) m lv pc [.ref (gz_ad G k)] := fun H locs ls hP hS hl => W.aret C.1 C.2.1 (C.2.2.2.2.2.2.2.2.1.trans hr) hrt (Or.inr ⟨_, rfl⟩) (fun t ht hW => ⟨rfl, ⟨by rw [ht]; exact hP, va_K.moved hW.alike C.2.2.2.2.2.1, nw_ok.warm hW C.2.2.2.2.2.2.2.2.2.2⟩, hS.F ht⟩) hS.2.2 d C.2.2.2.2.2.2.2.1
theorem jr_vret {X : jz_X} {nL : Nat} {cc : ByteArray} {own : String} {ret : Option FieldType} {rm0 : Room} {G : jz_G} {Q : State → Prop} {m : jz_M} {lv : List (Nat × Value)} {st : List Value} (pc : Nat) (C : jz_C X nL cc own ret rm0 G) (d : decode cc pc = .ok (.return_, 1)) (hr : ret = none) : jz_J X nL G (jz_q X G none m) m lv pc [] := fun H locs ls hP hS hl => W.vret C.1 C.2.1 (C.2.2.2.2.2.2.2.2.1.trans hr) (fun t ht hW => ⟨rfl, ⟨by rw [ht]; exact hP, va_K.moved hW.alike C.2.2.2.2.2.1, nw_ok.warm hW C.2.2.2.2.2.2.2.2.2.2⟩, hS.F ht⟩) hS.2.2 d C.2.2.2.2.2.2.2.1
/-- a contract out of a walk -/
theorem jz_met {l : Launch} {y : MethodName} {cc : ByteArray} {nL : Nat} {ret : Option FieldType} {rm : Room} {G : jz_G} {as : List Value} {m m' : jz_M} {ov : Option Value} {own : String} (hy : plainName y.cls = true) (ho : y.cls = own) (hI : jz_I G) (hlen : (lg_sl as).length ≤ nL)
    (body : ∀ X : jz_X, xz_l X = l → jz_C X nL cc own ret rm G → jz_J X nL G (jz_q X G ov m') m (lv_args 0 as) 0 []) : jz_m l y (.code y cc nL ret) rm G as m ov m' := by
  refine Met.ofW (cc := cc) (maxL := nL) (ret := ret) hy rfl ?_
  intro p e s mi args below meth c s₁ B hml hv
  obtain ⟨rfl, hP, hK, hN⟩ := hv
  have hts := atoms_spec (ws := Cond.code y cc nL ret :: gw_tbl) B.pre
  subst ho
  have C : jz_C (p, l, e, (headSpec (Cond.code y cc nL ret :: gw_tbl) rm).room, s, mi, as.toArray, below, meth, c) nL cc y.cls ret rm G := ⟨B.exec, B.bytes, hml, findClass_of_methodNamed B.named, fun w h => hts w (List.mem_cons_of_mem _ h), hK, hI, B.notSynchronized, B.returns, rfl, hN⟩
  have hz := body _ rfl C s.heap [] _ hP va_S.rf (lv_entry as hlen)
  rw [lg_entry_eq]
  exact hz
/-- what a call of y needs of the tables -/
def cz_S (cd : Cond) (y : MethodName) (bytes : ByteArray) (maxL : Nat) (ret : Option FieldType) (n : Nat) : Prop := cd = .code y bytes maxL ret ∧ cd ∈ lw_tbl ∧ Cond.initialized y.cls ∈ lw_tbl ∧ (y.cls ≠ "java/lang/invoke/MethodHandle" ∧ y.cls ≠ "java/lang/invoke/VarHandle") ∧ (parseMethodDescriptor y.desc).map (fun d => d.parameters.length) = some n
def cz_V (y : MethodName) : Prop := Cond.instanceMethod y ∈ lw_tbl ∧ Cond.selects y.cls y y ∈ lw_tbl
def rz_ok (rm : Room) (maxL : Nat) (R : Room) : Bool := decide (rm.cells = 0) && decide (rm.slots = 0) && decide (rm.frames + 1 ≤ R.frames) && decide (8 + (maxL + 11) + rm.locals ≤ R.locals)
theorem rz_use {rm : Room} {maxL : Nat} {R : Room} (h : rz_ok rm maxL R = true) : rm.cells = 0 ∧ rm.slots = 0 ∧ rm.frames + 1 ≤ R.frames ∧ 8 + (maxL + 11) + rm.locals ≤ R.locals := by
  simp only [rz_ok, Bool.and_eq_true, decide_eq_true_eq] at h
  exact ⟨h.1.1.1, h.1.1.2, h.1.2, h.2⟩
theorem jz_blind {G : jz_G} {as : List Value} {m : jz_M} : FrameBlind (va_Pc as (jz_W G m)) := fun a U g mk q => by
  obtain ⟨q0, qP, qK, qN⟩ := q
  exact ⟨q0, qP, va_K.moved (u := U) (U := U.calling g mk a) (Vm.Alike.refl U.vm) qK, nw_ok.same (s := U) (U := U.calling g mk a) rfl qN⟩
/-- behind a call -/
theorem jr_run {X : jz_X} {nL : Nat} {G : jz_G} {Q : State → Prop} {lv : List (Nat × Value)} {st : List Value} {pc : Nat} {m' : jz_M} {ov : Option Value} {st0 st' : List Value} {H : Heap} {locs : List Loc} {ls : Array Slot} (hS : va_S (jz_F G) (xz_s X).heap H locs) (hl : lv_has ls nL lv)
    (hr : va_Run (xz_p X) (xz_l X) (xz_e X) (xz_R X) (xz_s X) (xz_m X) (xz_a X) (xz_b X) (xz_t X) (xz_c X) H locs 0 0 0 0 (F0 (xz_m X) pc ls st0) st (fun st o t => o = .returned ov ∧ jz_W G m' t ∧ va_F (jz_F G) st t) (jz_F G))
    (hst : ov.toList ++ st = st') (kk : jz_J X nL G Q m' lv (pc + 3) st') : W (xz_p X) (xz_l X) (xz_e X) (xz_R X) (xz_s X) (xz_m X) (xz_a X) (xz_b X) (xz_t X) (xz_c X) H locs 0 0 Q (F0 (xz_m X) pc ls st0) := by
  intro T hT X0
  obtain ⟨v, st₀, t, T', L, h0, X', hL, e1, e2, ⟨hv, hw, hz, hk⟩, go⟩ := hr T hT X0
  cases hv
  subst hst
  rw [h0] at hz hk
  obtain ⟨t2, a1, b1⟩ := kk T'.heap (locs ++ L) ls (by rw [e1]; exact hw.1)
    ⟨Nat.le_trans hS.1 (by rw [e1]; exact hz), fun q h1 h2 => by rw [e1, hk q (Nat.lt_of_lt_of_le h1 hS.1) h2]; exact hS.2.1 q h1 h2, fun q hq => by
      rcases List.mem_append.mp hq with h | h
      · exact hS.2.2 q h
      · exact hL q h⟩ hl T' rfl X'
  exact ⟨t2, go t2 a1, b1⟩
theorem cz_B {X : jz_X} {nL : Nat} {cc : ByteArray} {own : String} {ret : Option FieldType} {rm0 : Room} {G : jz_G} {cd : Cond} {y : MethodName} {bytes : ByteArray} {maxL n ix : Nat} {rt : Option FieldType} {rm : Room} (C : jz_C X nL cc own ret rm0 G) (hs : cz_S cd y bytes maxL rt n) (hR : rz_ok rm maxL rm0 = true) (hlink : Cond.methodLink own ix y ∈ lw_tbl) : CallB (xz_R X) (xz_s X) (xz_a X) own ix y bytes maxL rt (cd :: gw_tbl) rm 0 0 n := by
  obtain ⟨rfl, hc, hi, hy, hn⟩ := hs
  have hc2 : Cond.code y bytes maxL rt ∈ gw_tbl := gw_in hc (by first | rfl | simp [gw_ok, Cond.onTables, Cond.keeps, Cond.steady])
  have hR2 := rz_use hR
  rw [← C.2.2.2.2.2.2.2.2.2.1] at hR2
  refine ⟨hR2.1, hR2.2.1, hR2.2.2.1, hR2.2.2.2, pay_in C.2.2.2.2.1 (gw_good hc2), List.mem_cons_self, C.2.2.2.2.1 _ hc2, C.2.2.2.2.1 _ (gw_in hi (by first | rfl | simp [gw_ok, Cond.onTables, Cond.keeps, Cond.steady])), hy, fun sig h => ?_, C.2.2.2.2.1 _ (gw_in hlink (by first | rfl | simp [gw_ok, Cond.onTables, Cond.keeps, Cond.steady]))⟩
  rw [h] at hn
  exact (Option.some.inj hn).symm
theorem cz_N {X : jz_X} {nL : Nat} {cc : ByteArray} {own : String} {ret : Option FieldType} {rm0 : Room} {G : jz_G} {cd : Cond} {y : MethodName} {bytes : ByteArray} {maxL n ix : Nat} {rt : Option FieldType} {rm : Room} {host : String} (C : jz_C X nL cc own ret rm0 G) (hs : cz_S cd y bytes maxL rt n) (hR : rz_ok rm maxL rm0 = true) (hlink : Cond.methodLinkNest own ix y host ∈ lw_tbl) : va_CN (xz_R X) (xz_s X) (xz_a X) own ix y host bytes maxL rt (cd :: gw_tbl) rm 0 0 n := by
  obtain ⟨rfl, hc, hi, hy, hn⟩ := hs
  have hc2 : Cond.code y bytes maxL rt ∈ gw_tbl := gw_in hc (by first | rfl | simp [gw_ok, Cond.onTables, Cond.keeps, Cond.steady])
  have hR2 := rz_use hR
  rw [← C.2.2.2.2.2.2.2.2.2.1] at hR2
  exact va_cnB n C.2.2.2.2.1 (gw_good hc2) rfl hR2.1 hR2.2.1 (C.2.2.2.2.2.2.2.2.2.2 _ (nw_in hlink rfl)) (C.2.2.2.2.1 _ (gw_in hi (by first | rfl | simp [gw_ok, Cond.onTables, Cond.keeps, Cond.steady]))) ⟨hy.1, hy.2, hn⟩ ⟨hR2.2.2.1, hR2.2.2.2⟩
theorem cz_I {X : jz_X} {nL : Nat} {cc : ByteArray} {own : String} {ret : Option FieldType} {rm0 : Room} {G : jz_G} {y : MethodName} (C : jz_C X nL cc own ret rm0 G) (hv : cz_V y) : (Cond.instanceMethod y).before (xz_a X) (xz_s X) = true ∧ (Cond.selects y.cls y y).before (xz_a X) (xz_s X) = true := ⟨C.2.2.2.2.1 _ (gw_in hv.1 (by first | rfl | simp [gw_ok, Cond.onTables, Cond.keeps, Cond.steady])), C.2.2.2.2.1 _ (gw_in hv.2 (by first | rfl | simp [gw_ok, Cond.onTables, Cond.keeps, Cond.steady]))⟩
theorem jr_callV {X : jz_X} {nL : Nat} {cc : ByteArray} {own : String} {ret : Option FieldType} {rm0 : Room} {G : jz_G} {Q : State → Prop} {m : jz_M} {lv : List (Nat × Value)} {st : List Value} (pc : Nat) {k ci Nf : Nat} {T : u_T} {F : (Nat → Int32) → List Value} (As : List Value) {m' : jz_M} {ov : Option Value} {cd : Cond} {y : MethodName} {bytes : ByteArray} {maxL n ix : Nat} {rt : Option FieldType} {rm : Room} {st0 st' : List Value} (C : jz_C X nL cc own ret rm0 G) (d : decode cc pc = .ok (.invokevirtual ix, 3)) (hM : jz_m (xz_l X) y cd rm G (.ref (gz_ad G k) :: As) m ov m') (hs : cz_S cd y bytes maxL rt n) (hv : cz_V y) (hlink : Cond.methodLink own ix y ∈ lw_tbl) (hO : iz_O G k ci F) (hc : (gz_cl G)[ci]? = some (y.cls, T, Nf)) (hR : rz_ok rm maxL rm0 = true) (hn : As.length = n) (hst0 : st0 = As.reverse ++ .ref (gz_ad G k) :: st) (hwt : (st.map fun v => v.category).sum ≤ 8) (hst : ov.toList ++ st = st') (kk : jz_J X nL G Q m' lv (pc + 3) st') : jz_J X nL G Q m lv pc st0 := fun H locs ls hP hS hl => by
  refine jr_run hS hl (va_runV (As := As) (b := gz_ad G k) (rest := st) ⟨C.1, C.2.1, C.2.2.1, C.2.2.2.1, C.2.2.2.2.1⟩ hM ⟨cz_B C hs hR hlink, cz_I C hv⟩ ⟨jz_blind, va_recv C.2.2.2.2.2.1 hP hc (q0 := k) (ci := ci) (by rw [jz_w_at hO.1, hO.2]), fun U hU hW => ⟨rfl, by rw [hU]; exact hP, va_K.moved hW.alike C.2.2.2.2.2.1, nw_ok.warm hW C.2.2.2.2.2.2.2.2.2.2⟩⟩ rfl hn hl.1 hst0 (lv_room hwt) d ⟨Nat.zero_le _, Nat.zero_le _⟩) hst kk
theorem jr_callVN {X : jz_X} {nL : Nat} {cc : ByteArray} {own : String} {ret : Option FieldType} {rm0 : Room} {G : jz_G} {Q : State → Prop} {m : jz_M} {lv : List (Nat × Value)} {st : List Value} (pc : Nat) {k ci Nf : Nat} {T : u_T} {F : (Nat → Int32) → List Value} {host : String} (As : List Value) {m' : jz_M} {ov : Option Value} {cd : Cond} {y : MethodName} {bytes : ByteArray} {maxL n ix : Nat} {rt : Option FieldType} {rm : Room} {st0 st' : List Value} (C : jz_C X nL cc own ret rm0 G) (d : decode cc pc = .ok (.invokevirtual ix, 3)) (hM : jz_m (xz_l X) y cd rm G (.ref (gz_ad G k) :: As) m ov m') (hs : cz_S cd y bytes maxL rt n) (hv : cz_V y) (hlink : Cond.methodLinkNest own ix y host ∈ lw_tbl) (hO : iz_O G k ci F) (hc : (gz_cl G)[ci]? = some (y.cls, T, Nf)) (hR : rz_ok rm maxL rm0 = true) (hn : As.length = n) (hst0 : st0 = As.reverse ++ .ref (gz_ad G k) :: st) (hwt : (st.map fun v => v.category).sum ≤ 8) (hst : ov.toList ++ st = st') (kk : jz_J X nL G Q m' lv (pc + 3) st') : jz_J X nL G Q m lv pc st0 := fun H locs ls hP hS hl => by
  refine jr_run hS hl (va_runVN (As := As) (b := gz_ad G k) (rest := st) ⟨C.1, C.2.1, C.2.2.1, C.2.2.2.1, C.2.2.2.2.1⟩ hM ⟨cz_N C hs hR hlink, cz_I C hv⟩ ⟨jz_blind, va_recv C.2.2.2.2.2.1 hP hc (q0 := k) (ci := ci) (by rw [jz_w_at hO.1, hO.2]), fun U hU hW => ⟨rfl, by rw [hU]; exact hP, va_K.moved hW.alike C.2.2.2.2.2.1, nw_ok.warm hW C.2.2.2.2.2.2.2.2.2.2⟩⟩ rfl hn hl.1 hst0 (lv_room hwt) d ⟨Nat.zero_le _, Nat.zero_le _⟩) hst kk
theorem jr_callS {X : jz_X} {nL : Nat} {cc : ByteArray} {own : String} {ret : Option FieldType} {rm0 : Room} {G : jz_G} {Q : State → Prop} {m : jz_M} {lv : List (Nat × Value)} {st : List Value} (pc : Nat) (As : List Value) {m' : jz_M} {ov : Option Value} {cd : Cond} {y : MethodName} {bytes : ByteArray} {maxL n ix : Nat} {rt : Option FieldType} {rm : Room} {st0 st' : List Value} (C : jz_C X nL cc own ret rm0 G) (d : decode cc pc = .ok (.invokestatic ix, 3)) (hM : jz_m (xz_l X) y cd rm G As m ov m') (hs : cz_S cd y bytes maxL rt n) (hv : Cond.static y ∈ lw_tbl) (hlink : Cond.methodLink own ix y ∈ lw_tbl) (hR : rz_ok rm maxL rm0 = true) (hn : As.length = n) (hst0 : st0 = As.reverse ++ st) (hwt : (st.map fun v => v.category).sum ≤ 8) (hst : ov.toList ++ st = st') (kk : jz_J X nL G Q m' lv (pc + 3) st') : jz_J X nL G Q m lv pc st0 := fun H locs ls hP hS hl => by
  refine jr_run hS hl (va_runS (As := As) (rest := st) ⟨C.1, C.2.1, C.2.2.1, C.2.2.2.1, C.2.2.2.2.1⟩ hM ⟨cz_B C hs hR hlink, C.2.2.2.2.1 _ (gw_in hv (by first | rfl | simp [gw_ok, Cond.onTables, Cond.keeps, Cond.steady]))⟩ ⟨jz_blind, fun U hU hW => ⟨rfl, by rw [hU]; exact hP, va_K.moved hW.alike C.2.2.2.2.2.1, nw_ok.warm hW C.2.2.2.2.2.2.2.2.2.2⟩⟩ rfl hn hl.1 hst0 (lv_room hwt) d ⟨Nat.zero_le _, Nat.zero_le _⟩) hst kk
theorem jr_callSN {X : jz_X} {nL : Nat} {cc : ByteArray} {own : String} {ret : Option FieldType} {rm0 : Room} {G : jz_G} {Q : State → Prop} {m : jz_M} {lv : List (Nat × Value)} {st : List Value} (pc : Nat) {host : String} (As : List Value) {m' : jz_M} {ov : Option Value} {cd : Cond} {y : MethodName} {bytes : ByteArray} {maxL n ix : Nat} {rt : Option FieldType} {rm : Room} {st0 st' : List Value} (C : jz_C X nL cc own ret rm0 G) (d : decode cc pc = .ok (.invokestatic ix, 3)) (hM : jz_m (xz_l X) y cd rm G As m ov m') (hs : cz_S cd y bytes maxL rt n) (hv : Cond.static y ∈ lw_tbl) (hlink : Cond.methodLinkNest own ix y host ∈ lw_tbl) (hR : rz_ok rm maxL rm0 = true) (hn : As.length = n) (hst0 : st0 = As.reverse ++ st) (hwt : (st.map fun v => v.category).sum ≤ 8) (hst : ov.toList ++ st = st') (kk : jz_J X nL G Q m' lv (pc + 3) st') : jz_J X nL G Q m lv pc st0 := fun H locs ls hP hS hl => by
  refine jr_run hS hl (va_runSN (As := As) (rest := st) ⟨C.1, C.2.1, C.2.2.1, C.2.2.2.1, C.2.2.2.2.1⟩ hM ⟨cz_N C hs hR hlink, C.2.2.2.2.1 _ (gw_in hv (by first | rfl | simp [gw_ok, Cond.onTables, Cond.keeps, Cond.steady])), trivial⟩ ⟨jz_blind, fun U hU hW => ⟨rfl, by rw [hU]; exact hP, va_K.moved hW.alike C.2.2.2.2.2.1, nw_ok.warm hW C.2.2.2.2.2.2.2.2.2.2⟩⟩ rfl hn hl.1 hst0 (lv_room hwt) d ⟨Nat.zero_le _, Nat.zero_le _⟩) hst kk
theorem jr_tsOut {X : jz_X} {nL : Nat} {cc : ByteArray} {own : String} {ret : Option FieldType} {rm0 : Room} {G : jz_G} {Q : State → Prop} {m : jz_M} {lv : List (Nat × Value)} {st : List Value} (pc : Nat) {x : Int32} {dflt lo hi : Int} {offs : Array Int} {len : Nat} (tgt : Nat) (C : jz_C X nL cc own ret rm0 G) (d : decode cc pc = .ok (.tableswitch dflt lo hi offs, len)) (h : x.toInt < lo ∨ hi < x.toInt) (ht : (pc : Int) + dflt = (tgt : Int)) (k : jz_J X nL G Q m lv tgt st) : jz_J X nL G Q m lv pc (.int x :: st) := fun H locs ls hP hS hl => lv_tableOut C.1 C.2.1 d h ht (k H locs ls hP hS hl)
theorem jr_tsIn {X : jz_X} {nL : Nat} {cc : ByteArray} {own : String} {ret : Option FieldType} {rm0 : Room} {G : jz_G} {Q : State → Prop} {m : jz_M} {lv : List (Nat × Value)} {st : List Value} (pc : Nat) {x : Int32} {dflt lo hi off : Int} {offs : Array Int} {len : Nat} (tgt : Nat) (v : Int32) (C : jz_C X nL cc own ret rm0 G) (d : decode cc pc = .ok (.tableswitch dflt lo hi offs, len)) (hx : x = v) (h1 : ¬ v.toInt < lo) (h2 : ¬ hi < v.toInt) (ho : offs[(v.toInt - lo).toNat]? = some off) (ht : (pc : Int) + off = (tgt : Int)) (k : jz_J X nL G Q m lv tgt st) : jz_J X nL G Q m lv pc (.int x :: st) := fun H locs ls hP hS hl => by
  subst hx
  exact lv_tableIn C.1 C.2.1 d h1 h2 ho ht (k H locs ls hP hS hl)
def jz_max (x y : Int32) : Int32 := if x < y then y else x
theorem jr_max {X : jz_X} {nL : Nat} {cc : ByteArray} {own : String} {ret : Option FieldType} {rm0 : Room} {G : jz_G} {Q : State → Prop} {m : jz_M} {lv : List (Nat × Value)} {st : List Value} (pc : Nat) {x y : Int32} {ix : Nat} (C : jz_C X nL cc own ret rm0 G) (d : decode cc pc = .ok (.invokestatic ix, 3)) (h1 : Cond.methodLink own ix Lib.Math.max.name ∈ lw_tbl) (h2 : Cond.static Lib.Math.max.name ∈ lw_tbl) (h3 : Cond.initialized "java/lang/Math" ∈ lw_tbl) (h4 : Cond.code Lib.Math.max.name Lib.Math.max.code 2 (some .int) ∈ lw_tbl) (hf : 1 ≤ rm0.frames) (hwt : (st.map fun v => v.category).sum + 13 ≤ rm0.locals) (k : jz_J X nL G Q m lv (pc + 3) (.int (jz_max x y) :: st)) : jz_J X nL G Q m lv pc (.int y :: .int x :: st) := fun H locs ls hP hS hl => by
  have hR := C.2.2.2.2.2.2.2.2.2.1
  exact va_mmax C.1 C.2.1 (C.2.2.1.trans hl.1.symm) C.2.2.2.1 (C.2.2.2.2.1 _ (gw_in h1 (by first | rfl | simp [gw_ok, Cond.onTables, Cond.keeps, Cond.steady]))) (C.2.2.2.2.1 _ (gw_in h2 (by first | rfl | simp [gw_ok, Cond.onTables, Cond.keeps, Cond.steady]))) (C.2.2.2.2.1 _ (gw_in h3 (by first | rfl | simp [gw_ok, Cond.onTables, Cond.keeps, Cond.steady]))) (C.2.2.2.2.1 _ (gw_in h4 (by first | rfl | simp [gw_ok, Cond.onTables, Cond.keeps, Cond.steady]))) (by rw [hR]; exact hf) (by rw [hR]; exact hwt) (Nat.zero_le _) (Nat.zero_le _) d (k H locs ls hP hS hl)
def jz_bo (x : Int32) : Option Int32 := if x = 0 ∨ x = 1 then some x else none
theorem jz_bo_eq {x b : Int32} (h : jz_bo x = some b) : b = x := by
  unfold jz_bo at h
  by_cases hc : x = 0 ∨ x = 1
  · rw [if_pos hc] at h; exact (Option.some.inj h).symm
  · rw [if_neg hc] at h; cases h
theorem jz_bo_n {x b : Int32} (h : jz_bo x = some b) : narrow .boolean (.int b) = .int b ∧ fits .boolean (.int b) = true := by
  have e := jz_bo_eq h
  subst e
  unfold jz_bo at h
  by_cases hc : b = 0 ∨ b = 1
  · rcases hc with rfl | rfl <;> exact ⟨rfl, rfl⟩
  · rw [if_neg hc] at h; cases h
end
section
/-! names: classes, fields, methods, words (by program, out of the claim's tables and listing) -/
abbrev R_AR : String := "AreaRouters"
def T_AR : u_T := fun k => match k with
  | 0 => ("AreaRouters", "areas", "[I", true)
  | 1 => ("AreaRouters", "levelSets", "[I", true)
  | 2 => ("AreaRouters", "wiring", "LAreaRouters$Wiring;", true)
  | 3 => ("AreaRouters", "hearings", "[LAreaRouters$Hearing;", true)
  | 4 => ("AreaRouters", "bases", "[LAreaRouters$Base;", true)
  | 5 => ("AreaRouters", "draft", "LAreaRouters$Draft;", true)
  | _ => ("AreaRouters", "ways", "LAreaRouters$Ways;", true)
def ty_AR : Nat → FieldType := fun k => match k with
  | 0 => .array .int
  | 1 => .array .int
  | 2 => .object "AreaRouters$Wiring"
  | 3 => .array (.object "AreaRouters$Hearing")
  | 4 => .array (.object "AreaRouters$Base")
  | 5 => .object "AreaRouters$Draft"
  | _ => .object "AreaRouters$Ways"
theorem tn_AR : ∀ a, a < 7 → ∀ b, b < 7 → a ≠ b → (T_AR a).2.1 ≠ (T_AR b).2.1 := by decide +kernel
theorem tt_AR : ∀ k, k < 7 → parseFieldDescriptor (T_AR k).2.2.1 = some (ty_AR k) := by decide +kernel
theorem il_AR : ∀ w ∈ u_ws R_AR T_AR 7, w ∈ lw_tbl := by
  intro w hw
  have hz : u_ws R_AR T_AR 7 = [.laysFinal "AreaRouters" "AreaRouters" "areas" "[I", .laysFinal "AreaRouters" "AreaRouters" "levelSets" "[I", .laysFinal "AreaRouters" "AreaRouters" "wiring" "LAreaRouters$Wiring;", .laysFinal "AreaRouters" "AreaRouters" "hearings" "[LAreaRouters$Hearing;", .laysFinal "AreaRouters" "AreaRouters" "bases" "[LAreaRouters$Base;", .laysFinal "AreaRouters" "AreaRouters" "draft" "LAreaRouters$Draft;", .laysFinal "AreaRouters" "AreaRouters" "ways" "LAreaRouters$Ways;"] := by decide +kernel
  rw [hz] at hw
  simp only [List.mem_cons, List.not_mem_nil, or_false] at hw
  rcases hw with rfl | rfl | rfl | rfl | rfl | rfl | rfl
  · exact List.mem_of_getElem? (i := 235) (by decide +kernel)
  · exact List.mem_of_getElem? (i := 237) (by decide +kernel)
  · exact List.mem_of_getElem? (i := 239) (by decide +kernel)
  · exact List.mem_of_getElem? (i := 241) (by decide +kernel)
  · exact List.mem_of_getElem? (i := 243) (by decide +kernel)
  · exact List.mem_of_getElem? (i := 245) (by decide +kernel)
  · exact List.mem_of_getElem? (i := 247) (by decide +kernel)
theorem in_AR : ∀ w ∈ u_ws R_AR T_AR 7, w ∈ gw_tbl := fun w hw => gw_in (il_AR w hw) (by
  have hz : ∀ w ∈ u_ws R_AR T_AR 7, gw_ok w = true := by decide +kernel
  exact hz w hw)
abbrev R_Wi : String := "AreaRouters$Wiring"
def T_Wi : u_T := fun k => match k with
  | 0 => ("AreaRouters$Wiring", "metrics", "[I", true)
  | _ => ("AreaRouters$Wiring", "priorities", "[I", true)
def ty_Wi : Nat → FieldType := fun k => match k with
  | 0 => .array .int
  | _ => .array .int
theorem tn_Wi : ∀ a, a < 2 → ∀ b, b < 2 → a ≠ b → (T_Wi a).2.1 ≠ (T_Wi b).2.1 := by decide +kernel
theorem tt_Wi : ∀ k, k < 2 → parseFieldDescriptor (T_Wi k).2.2.1 = some (ty_Wi k) := by decide +kernel
theorem il_Wi : ∀ w ∈ u_ws R_Wi T_Wi 2, w ∈ lw_tbl := by
  intro w hw
  have hz : u_ws R_Wi T_Wi 2 = [.laysFinal "AreaRouters$Wiring" "AreaRouters$Wiring" "metrics" "[I", .laysFinal "AreaRouters$Wiring" "AreaRouters$Wiring" "priorities" "[I"] := by decide +kernel
  rw [hz] at hw
  simp only [List.mem_cons, List.not_mem_nil, or_false] at hw
  rcases hw with rfl | rfl
  · exact List.mem_of_getElem? (i := 126) (by decide +kernel)
  · exact List.mem_of_getElem? (i := 128) (by decide +kernel)
theorem in_Wi : ∀ w ∈ u_ws R_Wi T_Wi 2, w ∈ gw_tbl := fun w hw => gw_in (il_Wi w hw) (by
  have hz : ∀ w ∈ u_ws R_Wi T_Wi 2, gw_ok w = true := by decide +kernel
  exact hz w hw)
abbrev R_He : String := "AreaRouters$Hearing"
def T_He : u_T := fun k => match k with
  | 0 => ("AreaRouters$Hearing", "ticksLeft", "[I", true)
  | _ => ("AreaRouters$Hearing", "named", "[Z", true)
def ty_He : Nat → FieldType := fun k => match k with
  | 0 => .array .int
  | _ => .array .boolean
theorem tn_He : ∀ a, a < 2 → ∀ b, b < 2 → a ≠ b → (T_He a).2.1 ≠ (T_He b).2.1 := by decide +kernel
theorem tt_He : ∀ k, k < 2 → parseFieldDescriptor (T_He k).2.2.1 = some (ty_He k) := by decide +kernel
theorem il_He : ∀ w ∈ u_ws R_He T_He 2, w ∈ lw_tbl := by
  intro w hw
  have hz : u_ws R_He T_He 2 = [.laysFinal "AreaRouters$Hearing" "AreaRouters$Hearing" "ticksLeft" "[I", .laysFinal "AreaRouters$Hearing" "AreaRouters$Hearing" "named" "[Z"] := by decide +kernel
  rw [hz] at hw
  simp only [List.mem_cons, List.not_mem_nil, or_false] at hw
  rcases hw with rfl | rfl
  · exact List.mem_of_getElem? (i := 141) (by decide +kernel)
  · exact List.mem_of_getElem? (i := 143) (by decide +kernel)
theorem in_He : ∀ w ∈ u_ws R_He T_He 2, w ∈ gw_tbl := fun w hw => gw_in (il_He w hw) (by
  have hz : ∀ w ∈ u_ws R_He T_He 2, gw_ok w = true := by decide +kernel
  exact hz w hw)
abbrev R_Dr : String := "AreaRouters$Draft"
def T_Dr : u_T := fun k => match k with
  | 0 => ("AreaRouters$Draft", "links", "[I", true)
  | 1 => ("AreaRouters$Draft", "linkCount", "I", false)
  | 2 => ("AreaRouters$Draft", "area", "I", false)
  | _ => ("AreaRouters$Draft", "exit", "Z", false)
def ty_Dr : Nat → FieldType := fun k => match k with
  | 0 => .array .int
  | 1 => .int
  | 2 => .int
  | _ => .boolean
theorem tn_Dr : ∀ a, a < 4 → ∀ b, b < 4 → a ≠ b → (T_Dr a).2.1 ≠ (T_Dr b).2.1 := by decide +kernel
theorem tt_Dr : ∀ k, k < 4 → parseFieldDescriptor (T_Dr k).2.2.1 = some (ty_Dr k) := by decide +kernel
theorem il_Dr : ∀ w ∈ u_ws R_Dr T_Dr 4, w ∈ lw_tbl := by
  intro w hw
  have hz : u_ws R_Dr T_Dr 4 = [.laysFinal "AreaRouters$Draft" "AreaRouters$Draft" "links" "[I", .lays "AreaRouters$Draft" "AreaRouters$Draft" "linkCount" "I", .lays "AreaRouters$Draft" "AreaRouters$Draft" "area" "I", .lays "AreaRouters$Draft" "AreaRouters$Draft" "exit" "Z"] := by decide +kernel
  rw [hz] at hw
  simp only [List.mem_cons, List.not_mem_nil, or_false] at hw
  rcases hw with rfl | rfl | rfl | rfl
  · exact List.mem_of_getElem? (i := 203) (by decide +kernel)
  · exact List.mem_of_getElem? (i := 205) (by decide +kernel)
  · exact List.mem_of_getElem? (i := 207) (by decide +kernel)
  · exact List.mem_of_getElem? (i := 209) (by decide +kernel)
theorem in_Dr : ∀ w ∈ u_ws R_Dr T_Dr 4, w ∈ gw_tbl := fun w hw => gw_in (il_Dr w hw) (by
  have hz : ∀ w ∈ u_ws R_Dr T_Dr 4, gw_ok w = true := by decide +kernel
  exact hz w hw)
abbrev R_Ba : String := "AreaRouters$Base"
def T_Ba : u_T := fun k => match k with
  | 0 => ("AreaRouters$Base", "sequences", "[I", true)
  | 1 => ("AreaRouters$Base", "greatest", "[I", true)
  | 2 => ("AreaRouters$Base", "lives", "[I", true)
  | 3 => ("AreaRouters$Base", "ticksAtRest", "[I", true)
  | 4 => ("AreaRouters$Base", "exits", "[Z", true)
  | 5 => ("AreaRouters$Base", "areas", "[I", true)
  | 6 => ("AreaRouters$Base", "linkCounts", "[I", true)
  | 7 => ("AreaRouters$Base", "links", "[I", true)
  | 8 => ("AreaRouters$Base", "due", "[I", true)
  | _ => ("AreaRouters$Base", "asked", "[I", true)
def ty_Ba : Nat → FieldType := fun k => match k with
  | 0 => .array .int
  | 1 => .array .int
  | 2 => .array .int
  | 3 => .array .int
  | 4 => .array .boolean
  | 5 => .array .int
  | 6 => .array .int
  | 7 => .array .int
  | 8 => .array .int
  | _ => .array .int
theorem tn_Ba : ∀ a, a < 10 → ∀ b, b < 10 → a ≠ b → (T_Ba a).2.1 ≠ (T_Ba b).2.1 := by decide +kernel
theorem tt_Ba : ∀ k, k < 10 → parseFieldDescriptor (T_Ba k).2.2.1 = some (ty_Ba k) := by decide +kernel
theorem il_Ba : ∀ w ∈ u_ws R_Ba T_Ba 10, w ∈ lw_tbl := by
  intro w hw
  have hz : u_ws R_Ba T_Ba 10 = [.laysFinal "AreaRouters$Base" "AreaRouters$Base" "sequences" "[I", .laysFinal "AreaRouters$Base" "AreaRouters$Base" "greatest" "[I", .laysFinal "AreaRouters$Base" "AreaRouters$Base" "lives" "[I", .laysFinal "AreaRouters$Base" "AreaRouters$Base" "ticksAtRest" "[I", .laysFinal "AreaRouters$Base" "AreaRouters$Base" "exits" "[Z", .laysFinal "AreaRouters$Base" "AreaRouters$Base" "areas" "[I", .laysFinal "AreaRouters$Base" "AreaRouters$Base" "linkCounts" "[I", .laysFinal "AreaRouters$Base" "AreaRouters$Base" "links" "[I", .laysFinal "AreaRouters$Base" "AreaRouters$Base" "due" "[I", .laysFinal "AreaRouters$Base" "AreaRouters$Base" "asked" "[I"] := by decide +kernel
  rw [hz] at hw
  simp only [List.mem_cons, List.not_mem_nil, or_false] at hw
  rcases hw with rfl | rfl | rfl | rfl | rfl | rfl | rfl | rfl | rfl | rfl
  · exact List.mem_of_getElem? (i := 167) (by decide +kernel)
  · exact List.mem_of_getElem? (i := 169) (by decide +kernel)
  · exact List.mem_of_getElem? (i := 171) (by decide +kernel)
  · exact List.mem_of_getElem? (i := 173) (by decide +kernel)
  · exact List.mem_of_getElem? (i := 175) (by decide +kernel)
  · exact List.mem_of_getElem? (i := 177) (by decide +kernel)
  · exact List.mem_of_getElem? (i := 179) (by decide +kernel)
  · exact List.mem_of_getElem? (i := 181) (by decide +kernel)
  · exact List.mem_of_getElem? (i := 183) (by decide +kernel)
  · exact List.mem_of_getElem? (i := 185) (by decide +kernel)
theorem in_Ba : ∀ w ∈ u_ws R_Ba T_Ba 10, w ∈ gw_tbl := fun w hw => gw_in (il_Ba w hw) (by
  have hz : ∀ w ∈ u_ws R_Ba T_Ba 10, gw_ok w = true := by decide +kernel
  exact hz w hw)
abbrev R_Wa : String := "AreaRouters$Ways"
def T_Wa : u_T := fun k => match k with
  | 0 => ("AreaRouters$Ways", "costs", "[I", true)
  | 1 => ("AreaRouters$Ways", "firstHops", "[I", true)
  | _ => ("AreaRouters$Ways", "settled", "[Z", true)
def ty_Wa : Nat → FieldType := fun k => match k with
  | 0 => .array .int
  | 1 => .array .int
  | _ => .array .boolean
theorem tn_Wa : ∀ a, a < 3 → ∀ b, b < 3 → a ≠ b → (T_Wa a).2.1 ≠ (T_Wa b).2.1 := by decide +kernel
theorem tt_Wa : ∀ k, k < 3 → parseFieldDescriptor (T_Wa k).2.2.1 = some (ty_Wa k) := by decide +kernel
theorem il_Wa : ∀ w ∈ u_ws R_Wa T_Wa 3, w ∈ lw_tbl := by
  intro w hw
  have hz : u_ws R_Wa T_Wa 3 = [.laysFinal "AreaRouters$Ways" "AreaRouters$Ways" "costs" "[I", .laysFinal "AreaRouters$Ways" "AreaRouters$Ways" "firstHops" "[I", .laysFinal "AreaRouters$Ways" "AreaRouters$Ways" "settled" "[Z"] := by decide +kernel
  rw [hz] at hw
  simp only [List.mem_cons, List.not_mem_nil, or_false] at hw
  rcases hw with rfl | rfl | rfl
  · exact List.mem_of_getElem? (i := 221) (by decide +kernel)
  · exact List.mem_of_getElem? (i := 223) (by decide +kernel)
  · exact List.mem_of_getElem? (i := 225) (by decide +kernel)
theorem in_Wa : ∀ w ∈ u_ws R_Wa T_Wa 3, w ∈ gw_tbl := fun w hw => gw_in (il_Wa w hw) (by
  have hz : ∀ w ∈ u_ws R_Wa T_Wa 3, gw_ok w = true := by decide +kernel
  exact hz w hw)
abbrev R_Mo : String := "AreaRoutersModel"
def T_Mo : u_T := fun k => match k with
  | 0 => ("AreaRoutersModel", "thrown", "I", false)
  | 1 => ("AreaRoutersModel", "area", "[I", true)
  | 2 => ("AreaRoutersModel", "levels", "[I", true)
  | 3 => ("AreaRoutersModel", "placed", "[Z", true)
  | 4 => ("AreaRoutersModel", "metric", "[I", true)
  | 5 => ("AreaRoutersModel", "priority", "[I", true)
  | 6 => ("AreaRoutersModel", "heard", "[I", true)
  | 7 => ("AreaRoutersModel", "named", "[Z", true)
  | 8 => ("AreaRoutersModel", "sequence", "[I", true)
  | 9 => ("AreaRoutersModel", "most", "[I", true)
  | 10 => ("AreaRoutersModel", "life", "[I", true)
  | 11 => ("AreaRoutersModel", "gone", "[I", true)
  | 12 => ("AreaRoutersModel", "exit", "[Z", true)
  | 13 => ("AreaRoutersModel", "where", "[I", true)
  | 14 => ("AreaRoutersModel", "many", "[I", true)
  | 15 => ("AreaRoutersModel", "link", "[I", true)
  | 16 => ("AreaRoutersModel", "due", "[I", true)
  | 17 => ("AreaRoutersModel", "asked", "[I", true)
  | 18 => ("AreaRoutersModel", "count", "I", false)
  | 19 => ("AreaRoutersModel", "now", "[I", true)
  | 20 => ("AreaRoutersModel", "cost", "[I", true)
  | _ => ("AreaRoutersModel", "hops", "[I", true)
def ty_Mo : Nat → FieldType := fun k => match k with
  | 0 => .int
  | 1 => .array .int
  | 2 => .array .int
  | 3 => .array .boolean
  | 4 => .array .int
  | 5 => .array .int
  | 6 => .array .int
  | 7 => .array .boolean
  | 8 => .array .int
  | 9 => .array .int
  | 10 => .array .int
  | 11 => .array .int
  | 12 => .array .boolean
  | 13 => .array .int
  | 14 => .array .int
  | 15 => .array .int
  | 16 => .array .int
  | 17 => .array .int
  | 18 => .int
  | 19 => .array .int
  | 20 => .array .int
  | _ => .array .int
theorem tn_Mo : ∀ a, a < 22 → ∀ b, b < 22 → a ≠ b → (T_Mo a).2.1 ≠ (T_Mo b).2.1 := by decide +kernel
theorem tt_Mo : ∀ k, k < 22 → parseFieldDescriptor (T_Mo k).2.2.1 = some (ty_Mo k) := by decide +kernel
theorem il_Mo : ∀ w ∈ u_ws R_Mo T_Mo 22, w ∈ lw_tbl := by
  intro w hw
  have hz : u_ws R_Mo T_Mo 22 = [.lays "AreaRoutersModel" "AreaRoutersModel" "thrown" "I", .laysFinal "AreaRoutersModel" "AreaRoutersModel" "area" "[I", .laysFinal "AreaRoutersModel" "AreaRoutersModel" "levels" "[I", .laysFinal "AreaRoutersModel" "AreaRoutersModel" "placed" "[Z", .laysFinal "AreaRoutersModel" "AreaRoutersModel" "metric" "[I", .laysFinal "AreaRoutersModel" "AreaRoutersModel" "priority" "[I", .laysFinal "AreaRoutersModel" "AreaRoutersModel" "heard" "[I", .laysFinal "AreaRoutersModel" "AreaRoutersModel" "named" "[Z", .laysFinal "AreaRoutersModel" "AreaRoutersModel" "sequence" "[I", .laysFinal "AreaRoutersModel" "AreaRoutersModel" "most" "[I", .laysFinal "AreaRoutersModel" "AreaRoutersModel" "life" "[I", .laysFinal "AreaRoutersModel" "AreaRoutersModel" "gone" "[I", .laysFinal "AreaRoutersModel" "AreaRoutersModel" "exit" "[Z", .laysFinal "AreaRoutersModel" "AreaRoutersModel" "where" "[I", .laysFinal "AreaRoutersModel" "AreaRoutersModel" "many" "[I", .laysFinal "AreaRoutersModel" "AreaRoutersModel" "link" "[I", .laysFinal "AreaRoutersModel" "AreaRoutersModel" "due" "[I", .laysFinal "AreaRoutersModel" "AreaRoutersModel" "asked" "[I", .lays "AreaRoutersModel" "AreaRoutersModel" "count" "I", .laysFinal "AreaRoutersModel" "AreaRoutersModel" "now" "[I", .laysFinal "AreaRoutersModel" "AreaRoutersModel" "cost" "[I", .laysFinal "AreaRoutersModel" "AreaRoutersModel" "hops" "[I"] := by decide +kernel
  rw [hz] at hw
  simp only [List.mem_cons, List.not_mem_nil, or_false] at hw
  rcases hw with rfl | rfl | rfl | rfl | rfl | rfl | rfl | rfl | rfl | rfl | rfl | rfl | rfl | rfl | rfl | rfl | rfl | rfl | rfl | rfl | rfl | rfl
  · exact List.mem_of_getElem? (i := 741) (by decide +kernel)
  · exact List.mem_of_getElem? (i := 743) (by decide +kernel)
  · exact List.mem_of_getElem? (i := 745) (by decide +kernel)
  · exact List.mem_of_getElem? (i := 747) (by decide +kernel)
  · exact List.mem_of_getElem? (i := 749) (by decide +kernel)
  · exact List.mem_of_getElem? (i := 751) (by decide +kernel)
  · exact List.mem_of_getElem? (i := 753) (by decide +kernel)
  · exact List.mem_of_getElem? (i := 755) (by decide +kernel)
  · exact List.mem_of_getElem? (i := 757) (by decide +kernel)
  · exact List.mem_of_getElem? (i := 759) (by decide +kernel)
  · exact List.mem_of_getElem? (i := 761) (by decide +kernel)
  · exact List.mem_of_getElem? (i := 763) (by decide +kernel)
  · exact List.mem_of_getElem? (i := 765) (by decide +kernel)
  · exact List.mem_of_getElem? (i := 767) (by decide +kernel)
  · exact List.mem_of_getElem? (i := 769) (by decide +kernel)
  · exact List.mem_of_getElem? (i := 771) (by decide +kernel)
  · exact List.mem_of_getElem? (i := 773) (by decide +kernel)
  · exact List.mem_of_getElem? (i := 775) (by decide +kernel)
  · exact List.mem_of_getElem? (i := 777) (by decide +kernel)
  · exact List.mem_of_getElem? (i := 779) (by decide +kernel)
  · exact List.mem_of_getElem? (i := 781) (by decide +kernel)
  · exact List.mem_of_getElem? (i := 783) (by decide +kernel)
theorem in_Mo : ∀ w ∈ u_ws R_Mo T_Mo 22, w ∈ gw_tbl := fun w hw => gw_in (il_Mo w hw) (by
  have hz : ∀ w ∈ u_ws R_Mo T_Mo 22, gw_ok w = true := by decide +kernel
  exact hz w hw)
abbrev kz_cl : List vw_C := [(R_AR, T_AR, 7), (R_Wi, T_Wi, 2), (R_He, T_He, 2), (R_Dr, T_Dr, 4), (R_Ba, T_Ba, 10), (R_Wa, T_Wa, 3), (R_Mo, T_Mo, 22)]
abbrev b_AR_isRouter : ByteArray := prog_1_method_16_code
abbrev y_AR_isRouter : MethodName := ⟨"AreaRouters", "isRouter", "(I)Z"⟩
theorem sz_AR_isRouter : cz_S (.code y_AR_isRouter b_AR_isRouter 1 (some .boolean)) y_AR_isRouter b_AR_isRouter 1 (some .boolean) 1 := ⟨rfl, List.mem_of_getElem? (i := 256) (by decide +kernel), List.mem_of_getElem? (i := 96) (by decide +kernel), by decide +kernel, by decide +kernel⟩
theorem tz_AR_isRouter : Cond.static y_AR_isRouter ∈ lw_tbl := List.mem_of_getElem? (i := 255) (by decide +kernel)
abbrev b_Wi_isAttached : ByteArray := prog_6_method_5_code
abbrev y_Wi_isAttached : MethodName := ⟨"AreaRouters$Wiring", "isAttached", "(II)Z"⟩
theorem sz_Wi_isAttached : cz_S (.code y_Wi_isAttached b_Wi_isAttached 3 (some .boolean)) y_Wi_isAttached b_Wi_isAttached 3 (some .boolean) 2 := ⟨rfl, List.mem_of_getElem? (i := 264) (by decide +kernel), List.mem_of_getElem? (i := 97) (by decide +kernel), by decide +kernel, by decide +kernel⟩
theorem tz_Wi_isAttached : cz_V y_Wi_isAttached := ⟨List.mem_of_getElem? (i := 263) (by decide +kernel), List.mem_of_getElem? (i := 1) (by decide +kernel)⟩
abbrev b_Wi_circuitsOf : ByteArray := prog_6_method_8_code
abbrev y_Wi_circuitsOf : MethodName := ⟨"AreaRouters$Wiring", "circuitsOf", "(I)I"⟩
theorem sz_Wi_circuitsOf : cz_S (.code y_Wi_circuitsOf b_Wi_circuitsOf 4 (some .int)) y_Wi_circuitsOf b_Wi_circuitsOf 4 (some .int) 1 := ⟨rfl, List.mem_of_getElem? (i := 260) (by decide +kernel), List.mem_of_getElem? (i := 97) (by decide +kernel), by decide +kernel, by decide +kernel⟩
theorem tz_Wi_circuitsOf : cz_V y_Wi_circuitsOf := ⟨List.mem_of_getElem? (i := 259) (by decide +kernel), List.mem_of_getElem? (i := 0) (by decide +kernel)⟩
abbrev b_AR_place : ByteArray := prog_1_method_2_code
abbrev y_AR_place : MethodName := ⟨"AreaRouters", "place", "(III)Z"⟩
theorem sz_AR_place : cz_S (.code y_AR_place b_AR_place 4 (some .boolean)) y_AR_place b_AR_place 4 (some .boolean) 3 := ⟨rfl, List.mem_of_getElem? (i := 253) (by decide +kernel), List.mem_of_getElem? (i := 96) (by decide +kernel), by decide +kernel, by decide +kernel⟩
theorem tz_AR_place : cz_V y_AR_place := ⟨List.mem_of_getElem? (i := 251) (by decide +kernel), List.mem_of_getElem? (i := 252) (by decide +kernel)⟩
abbrev b_AR_isCircuit : ByteArray := prog_1_method_17_code
abbrev y_AR_isCircuit : MethodName := ⟨"AreaRouters", "isCircuit", "(I)Z"⟩
theorem sz_AR_isCircuit : cz_S (.code y_AR_isCircuit b_AR_isCircuit 1 (some .boolean)) y_AR_isCircuit b_AR_isCircuit 1 (some .boolean) 1 := ⟨rfl, List.mem_of_getElem? (i := 271) (by decide +kernel), List.mem_of_getElem? (i := 96) (by decide +kernel), by decide +kernel, by decide +kernel⟩
theorem tz_AR_isCircuit : Cond.static y_AR_isCircuit ∈ lw_tbl := List.mem_of_getElem? (i := 270) (by decide +kernel)
abbrev b_Wi_countOn : ByteArray := prog_6_method_6_code
abbrev y_Wi_countOn : MethodName := ⟨"AreaRouters$Wiring", "countOn", "(I)I"⟩
theorem sz_Wi_countOn : cz_S (.code y_Wi_countOn b_Wi_countOn 4 (some .int)) y_Wi_countOn b_Wi_countOn 4 (some .int) 1 := ⟨rfl, List.mem_of_getElem? (i := 276) (by decide +kernel), List.mem_of_getElem? (i := 97) (by decide +kernel), by decide +kernel, by decide +kernel⟩
theorem tz_Wi_countOn : cz_V y_Wi_countOn := ⟨List.mem_of_getElem? (i := 275) (by decide +kernel), List.mem_of_getElem? (i := 2) (by decide +kernel)⟩
abbrev b_Wi_join : ByteArray := prog_6_method_2_code
abbrev y_Wi_join : MethodName := ⟨"AreaRouters$Wiring", "join", "(IIII)V"⟩
theorem sz_Wi_join : cz_S (.code y_Wi_join b_Wi_join 5 none) y_Wi_join b_Wi_join 5 none 4 := ⟨rfl, List.mem_of_getElem? (i := 280) (by decide +kernel), List.mem_of_getElem? (i := 97) (by decide +kernel), by decide +kernel, by decide +kernel⟩
theorem tz_Wi_join : cz_V y_Wi_join := ⟨List.mem_of_getElem? (i := 279) (by decide +kernel), List.mem_of_getElem? (i := 3) (by decide +kernel)⟩
abbrev b_AR_attach : ByteArray := prog_1_method_3_code
abbrev y_AR_attach : MethodName := ⟨"AreaRouters", "attach", "(IIII)Z"⟩
theorem sz_AR_attach : cz_S (.code y_AR_attach b_AR_attach 5 (some .boolean)) y_AR_attach b_AR_attach 5 (some .boolean) 4 := ⟨rfl, List.mem_of_getElem? (i := 268) (by decide +kernel), List.mem_of_getElem? (i := 96) (by decide +kernel), by decide +kernel, by decide +kernel⟩
theorem tz_AR_attach : cz_V y_AR_attach := ⟨List.mem_of_getElem? (i := 266) (by decide +kernel), List.mem_of_getElem? (i := 267) (by decide +kernel)⟩
abbrev b_AR_checkSender : ByteArray := prog_1_method_27_code
abbrev y_AR_checkSender : MethodName := ⟨"AreaRouters", "checkSender", "(II)V"⟩
theorem sz_AR_checkSender : cz_S (.code y_AR_checkSender b_AR_checkSender 3 none) y_AR_checkSender b_AR_checkSender 3 none 2 := ⟨rfl, List.mem_of_getElem? (i := 442) (by decide +kernel), List.mem_of_getElem? (i := 96) (by decide +kernel), by decide +kernel, by decide +kernel⟩
theorem tz_AR_checkSender : cz_V y_AR_checkSender := ⟨List.mem_of_getElem? (i := 441) (by decide +kernel), List.mem_of_getElem? (i := 29) (by decide +kernel)⟩
abbrev b_AR_isMeant : ByteArray := prog_1_method_20_code
abbrev y_AR_isMeant : MethodName := ⟨"AreaRouters", "isMeant", "(II)Z"⟩
theorem sz_AR_isMeant : cz_S (.code y_AR_isMeant b_AR_isMeant 2 (some .boolean)) y_AR_isMeant b_AR_isMeant 2 (some .boolean) 2 := ⟨rfl, List.mem_of_getElem? (i := 529) (by decide +kernel), List.mem_of_getElem? (i := 96) (by decide +kernel), by decide +kernel, by decide +kernel⟩
theorem tz_AR_isMeant : Cond.static y_AR_isMeant ∈ lw_tbl := List.mem_of_getElem? (i := 528) (by decide +kernel)
abbrev b_AR_isLevel : ByteArray := prog_1_method_18_code
abbrev y_AR_isLevel : MethodName := ⟨"AreaRouters", "isLevel", "(I)Z"⟩
theorem sz_AR_isLevel : cz_S (.code y_AR_isLevel b_AR_isLevel 1 (some .boolean)) y_AR_isLevel b_AR_isLevel 1 (some .boolean) 1 := ⟨rfl, List.mem_of_getElem? (i := 319) (by decide +kernel), List.mem_of_getElem? (i := 96) (by decide +kernel), by decide +kernel, by decide +kernel⟩
theorem tz_AR_isLevel : Cond.static y_AR_isLevel ∈ lw_tbl := List.mem_of_getElem? (i := 318) (by decide +kernel)
abbrev b_AR_hasLevel : ByteArray := prog_1_method_24_code
abbrev y_AR_hasLevel : MethodName := ⟨"AreaRouters", "hasLevel", "(II)Z"⟩
theorem sz_AR_hasLevel : cz_S (.code y_AR_hasLevel b_AR_hasLevel 3 (some .boolean)) y_AR_hasLevel b_AR_hasLevel 3 (some .boolean) 2 := ⟨rfl, List.mem_of_getElem? (i := 335) (by decide +kernel), List.mem_of_getElem? (i := 96) (by decide +kernel), by decide +kernel, by decide +kernel⟩
theorem tz_AR_hasLevel : cz_V y_AR_hasLevel := ⟨List.mem_of_getElem? (i := 334) (by decide +kernel), List.mem_of_getElem? (i := 13) (by decide +kernel)⟩
abbrev b_AR_hearingAt : ByteArray := prog_1_method_26_code
abbrev y_AR_hearingAt : MethodName := ⟨"AreaRouters", "hearingAt", "(I)LAreaRouters$Hearing;"⟩
theorem sz_AR_hearingAt : cz_S (.code y_AR_hearingAt b_AR_hearingAt 2 (some (.object "AreaRouters$Hearing"))) y_AR_hearingAt b_AR_hearingAt 2 (some (.object "AreaRouters$Hearing")) 1 := ⟨rfl, List.mem_of_getElem? (i := 323) (by decide +kernel), List.mem_of_getElem? (i := 96) (by decide +kernel), by decide +kernel, by decide +kernel⟩
theorem tz_AR_hearingAt : cz_V y_AR_hearingAt := ⟨List.mem_of_getElem? (i := 322) (by decide +kernel), List.mem_of_getElem? (i := 11) (by decide +kernel)⟩
abbrev b_He_isHeard : ByteArray := prog_4_method_3_code
abbrev y_He_isHeard : MethodName := ⟨"AreaRouters$Hearing", "isHeard", "(III)Z"⟩
theorem sz_He_isHeard : cz_S (.code y_He_isHeard b_He_isHeard 4 (some .boolean)) y_He_isHeard b_He_isHeard 4 (some .boolean) 3 := ⟨rfl, List.mem_of_getElem? (i := 537) (by decide +kernel), List.mem_of_getElem? (i := 98) (by decide +kernel), by decide +kernel, by decide +kernel⟩
theorem tz_He_isHeard : cz_V y_He_isHeard := ⟨List.mem_of_getElem? (i := 536) (by decide +kernel), List.mem_of_getElem? (i := 32) (by decide +kernel)⟩
abbrev b_He_note : ByteArray := prog_4_method_2_code
abbrev y_He_note : MethodName := ⟨"AreaRouters$Hearing", "note", "(IIIZ)V"⟩
theorem sz_He_note : cz_S (.code y_He_note b_He_note 6 none) y_He_note b_He_note 6 none 4 := ⟨rfl, List.mem_of_getElem? (i := 541) (by decide +kernel), List.mem_of_getElem? (i := 98) (by decide +kernel), by decide +kernel, by decide +kernel⟩
theorem tz_He_note : cz_V y_He_note := ⟨List.mem_of_getElem? (i := 540) (by decide +kernel), List.mem_of_getElem? (i := 33) (by decide +kernel)⟩
abbrev b_AR_noteHello : ByteArray := prog_1_method_29_code
abbrev y_AR_noteHello : MethodName := ⟨"AreaRouters", "noteHello", "(III)V"⟩
theorem sz_AR_noteHello : cz_S (.code y_AR_noteHello b_AR_noteHello 7 none) y_AR_noteHello b_AR_noteHello 7 none 3 := ⟨rfl, List.mem_of_getElem? (i := 533) (by decide +kernel), List.mem_of_getElem? (i := 96) (by decide +kernel), by decide +kernel, by decide +kernel⟩
theorem tz_AR_noteHello : cz_V y_AR_noteHello := ⟨List.mem_of_getElem? (i := 532) (by decide +kernel), List.mem_of_getElem? (i := 31) (by decide +kernel)⟩
abbrev b_AR_hello : ByteArray := prog_1_method_4_code
abbrev y_AR_hello : MethodName := ⟨"AreaRouters", "hello", "(III)I"⟩
theorem sz_AR_hello : cz_S (.code y_AR_hello b_AR_hello 6 (some .int)) y_AR_hello b_AR_hello 6 (some .int) 3 := ⟨rfl, List.mem_of_getElem? (i := 438) (by decide +kernel), List.mem_of_getElem? (i := 96) (by decide +kernel), by decide +kernel, by decide +kernel⟩
theorem tz_AR_hello : cz_V y_AR_hello := ⟨List.mem_of_getElem? (i := 436) (by decide +kernel), List.mem_of_getElem? (i := 437) (by decide +kernel)⟩
abbrev b_AR_checkLevel : ByteArray := prog_1_method_28_code
abbrev y_AR_checkLevel : MethodName := ⟨"AreaRouters", "checkLevel", "(II)V"⟩
theorem sz_AR_checkLevel : cz_S (.code y_AR_checkLevel b_AR_checkLevel 3 none) y_AR_checkLevel b_AR_checkLevel 3 none 2 := ⟨rfl, List.mem_of_getElem? (i := 553) (by decide +kernel), List.mem_of_getElem? (i := 96) (by decide +kernel), by decide +kernel, by decide +kernel⟩
theorem tz_AR_checkLevel : cz_V y_AR_checkLevel := ⟨List.mem_of_getElem? (i := 552) (by decide +kernel), List.mem_of_getElem? (i := 34) (by decide +kernel)⟩
abbrev b_AR_baseOf : ByteArray := prog_1_method_25_code
abbrev y_AR_baseOf : MethodName := ⟨"AreaRouters", "baseOf", "(II)LAreaRouters$Base;"⟩
theorem sz_AR_baseOf : cz_S (.code y_AR_baseOf b_AR_baseOf 3 (some (.object "AreaRouters$Base"))) y_AR_baseOf b_AR_baseOf 3 (some (.object "AreaRouters$Base")) 2 := ⟨rfl, List.mem_of_getElem? (i := 292) (by decide +kernel), List.mem_of_getElem? (i := 96) (by decide +kernel), by decide +kernel, by decide +kernel⟩
theorem tz_AR_baseOf : cz_V y_AR_baseOf := ⟨List.mem_of_getElem? (i := 291) (by decide +kernel), List.mem_of_getElem? (i := 5) (by decide +kernel)⟩
abbrev b_Ba_isDue : ByteArray := prog_2_method_5_code
abbrev y_Ba_isDue : MethodName := ⟨"AreaRouters$Base", "isDue", "(II)Z"⟩
theorem sz_Ba_isDue : cz_S (.code y_Ba_isDue b_Ba_isDue 3 (some .boolean)) y_Ba_isDue b_Ba_isDue 3 (some .boolean) 2 := ⟨rfl, List.mem_of_getElem? (i := 573) (by decide +kernel), List.mem_of_getElem? (i := 99) (by decide +kernel), by decide +kernel, by decide +kernel⟩
theorem tz_Ba_isDue : cz_V y_Ba_isDue := ⟨List.mem_of_getElem? (i := 572) (by decide +kernel), List.mem_of_getElem? (i := 35) (by decide +kernel)⟩
abbrev b_He_isMutual : ByteArray := prog_4_method_4_code
abbrev y_He_isMutual : MethodName := ⟨"AreaRouters$Hearing", "isMutual", "(III)Z"⟩
theorem sz_He_isMutual : cz_S (.code y_He_isMutual b_He_isMutual 5 (some .boolean)) y_He_isMutual b_He_isMutual 5 (some .boolean) 3 := ⟨rfl, List.mem_of_getElem? (i := 327) (by decide +kernel), List.mem_of_getElem? (i := 98) (by decide +kernel), by decide +kernel, by decide +kernel⟩
theorem tz_He_isMutual : cz_V y_He_isMutual := ⟨List.mem_of_getElem? (i := 326) (by decide +kernel), List.mem_of_getElem? (i := 12) (by decide +kernel)⟩
abbrev b_AR_isReached : ByteArray := prog_1_method_30_code
abbrev y_AR_isReached : MethodName := ⟨"AreaRouters", "isReached", "(IIIII)Z"⟩
theorem sz_AR_isReached : cz_S (.code y_AR_isReached b_AR_isReached 6 (some .boolean)) y_AR_isReached b_AR_isReached 6 (some .boolean) 5 := ⟨rfl, List.mem_of_getElem? (i := 577) (by decide +kernel), List.mem_of_getElem? (i := 96) (by decide +kernel), by decide +kernel, by decide +kernel⟩
theorem tz_AR_isReached : cz_V y_AR_isReached := ⟨List.mem_of_getElem? (i := 576) (by decide +kernel), List.mem_of_getElem? (i := 36) (by decide +kernel)⟩
abbrev b_Ba_isAlive : ByteArray := prog_2_method_3_code
abbrev y_Ba_isAlive : MethodName := ⟨"AreaRouters$Base", "isAlive", "(I)Z"⟩
theorem sz_Ba_isAlive : cz_S (.code y_Ba_isAlive b_Ba_isAlive 2 (some .boolean)) y_Ba_isAlive b_Ba_isAlive 2 (some .boolean) 1 := ⟨rfl, List.mem_of_getElem? (i := 300) (by decide +kernel), List.mem_of_getElem? (i := 99) (by decide +kernel), by decide +kernel, by decide +kernel⟩
theorem tz_Ba_isAlive : cz_V y_Ba_isAlive := ⟨List.mem_of_getElem? (i := 299) (by decide +kernel), List.mem_of_getElem? (i := 7) (by decide +kernel)⟩
abbrev b_Ba_orderAgainst : ByteArray := prog_2_method_13_code
abbrev y_Ba_orderAgainst : MethodName := ⟨"AreaRouters$Base", "orderAgainst", "(LAreaRouters$Base;I)I"⟩
theorem sz_Ba_orderAgainst : cz_S (.code y_Ba_orderAgainst b_Ba_orderAgainst 3 (some .int)) y_Ba_orderAgainst b_Ba_orderAgainst 3 (some .int) 2 := ⟨rfl, List.mem_of_getElem? (i := 585) (by decide +kernel), List.mem_of_getElem? (i := 99) (by decide +kernel), by decide +kernel, by decide +kernel⟩
theorem tz_Ba_orderAgainst : cz_V y_Ba_orderAgainst := ⟨List.mem_of_getElem? (i := 584) (by decide +kernel), List.mem_of_getElem? (i := 38) (by decide +kernel)⟩
abbrev b_Ba_setDue : ByteArray := prog_2_method_7_code
abbrev y_Ba_setDue : MethodName := ⟨"AreaRouters$Base", "setDue", "(IIZ)V"⟩
theorem sz_Ba_setDue : cz_S (.code y_Ba_setDue b_Ba_setDue 4 none) y_Ba_setDue b_Ba_setDue 4 none 3 := ⟨rfl, List.mem_of_getElem? (i := 589) (by decide +kernel), List.mem_of_getElem? (i := 99) (by decide +kernel), by decide +kernel, by decide +kernel⟩
theorem tz_Ba_setDue : cz_V y_Ba_setDue := ⟨List.mem_of_getElem? (i := 588) (by decide +kernel), List.mem_of_getElem? (i := 39) (by decide +kernel)⟩
abbrev b_Ba_setAsked : ByteArray := prog_2_method_8_code
abbrev y_Ba_setAsked : MethodName := ⟨"AreaRouters$Base", "setAsked", "(IIZ)V"⟩
theorem sz_Ba_setAsked : cz_S (.code y_Ba_setAsked b_Ba_setAsked 4 none) y_Ba_setAsked b_Ba_setAsked 4 none 3 := ⟨rfl, List.mem_of_getElem? (i := 593) (by decide +kernel), List.mem_of_getElem? (i := 99) (by decide +kernel), by decide +kernel, by decide +kernel⟩
theorem tz_Ba_setAsked : cz_V y_Ba_setAsked := ⟨List.mem_of_getElem? (i := 592) (by decide +kernel), List.mem_of_getElem? (i := 40) (by decide +kernel)⟩
abbrev b_Ba_takeLinks : ByteArray := prog_2_method_19_code
abbrev y_Ba_takeLinks : MethodName := ⟨"AreaRouters$Base", "takeLinks", "(I[III)V"⟩
theorem sz_Ba_takeLinks : cz_S (.code y_Ba_takeLinks b_Ba_takeLinks 6 none) y_Ba_takeLinks b_Ba_takeLinks 6 none 4 := ⟨rfl, List.mem_of_getElem? (i := 604) (by decide +kernel), List.mem_of_getElem? (i := 99) (by decide +kernel), by decide +kernel, by decide +kernel⟩
theorem tz_Ba_takeLinks : cz_V y_Ba_takeLinks := ⟨List.mem_of_getElem? (i := 603) (by decide +kernel), List.mem_of_getElem? (i := 42) (by decide +kernel)⟩
abbrev b_Ba_copyFrom : ByteArray := prog_2_method_18_code
abbrev y_Ba_copyFrom : MethodName := ⟨"AreaRouters$Base", "copyFrom", "(LAreaRouters$Base;I)V"⟩
theorem sz_Ba_copyFrom : cz_S (.code y_Ba_copyFrom b_Ba_copyFrom 3 none) y_Ba_copyFrom b_Ba_copyFrom 3 none 2 := ⟨rfl, List.mem_of_getElem? (i := 597) (by decide +kernel), List.mem_of_getElem? (i := 99) (by decide +kernel), by decide +kernel, by decide +kernel⟩
theorem tz_Ba_copyFrom : cz_V y_Ba_copyFrom := ⟨List.mem_of_getElem? (i := 596) (by decide +kernel), List.mem_of_getElem? (i := 41) (by decide +kernel)⟩
abbrev b_AR_routerOf : ByteArray := prog_1_method_22_code
abbrev y_AR_routerOf : MethodName := ⟨"AreaRouters", "routerOf", "(I)I"⟩
theorem sz_AR_routerOf : cz_S (.code y_AR_routerOf b_AR_routerOf 1 (some .int)) y_AR_routerOf b_AR_routerOf 1 (some .int) 1 := ⟨rfl, List.mem_of_getElem? (i := 407) (by decide +kernel), List.mem_of_getElem? (i := 96) (by decide +kernel), by decide +kernel, by decide +kernel⟩
theorem tz_AR_routerOf : Cond.static y_AR_routerOf ∈ lw_tbl := List.mem_of_getElem? (i := 406) (by decide +kernel)
abbrev b_AR_partOf : ByteArray := prog_1_method_23_code
abbrev y_AR_partOf : MethodName := ⟨"AreaRouters", "partOf", "(I)I"⟩
theorem sz_AR_partOf : cz_S (.code y_AR_partOf b_AR_partOf 1 (some .int)) y_AR_partOf b_AR_partOf 1 (some .int) 1 := ⟨rfl, List.mem_of_getElem? (i := 389) (by decide +kernel), List.mem_of_getElem? (i := 96) (by decide +kernel), by decide +kernel, by decide +kernel⟩
theorem tz_AR_partOf : Cond.static y_AR_partOf ∈ lw_tbl := List.mem_of_getElem? (i := 388) (by decide +kernel)
abbrev b_Dr_begin : ByteArray := prog_3_method_2_code
abbrev y_Dr_begin : MethodName := ⟨"AreaRouters$Draft", "begin", "(I)V"⟩
theorem sz_Dr_begin : cz_S (.code y_Dr_begin b_Dr_begin 2 none) y_Dr_begin b_Dr_begin 2 none 1 := ⟨rfl, List.mem_of_getElem? (i := 619) (by decide +kernel), List.mem_of_getElem? (i := 100) (by decide +kernel), by decide +kernel, by decide +kernel⟩
theorem tz_Dr_begin : cz_V y_Dr_begin := ⟨List.mem_of_getElem? (i := 618) (by decide +kernel), List.mem_of_getElem? (i := 45) (by decide +kernel)⟩
abbrev b_AR_hasLevelTwoNeighbourElsewhere : ByteArray := prog_1_method_32_code
abbrev y_AR_hasLevelTwoNeighbourElsewhere : MethodName := ⟨"AreaRouters", "hasLevelTwoNeighbourElsewhere", "(I)Z"⟩
theorem sz_AR_hasLevelTwoNeighbourElsewhere : cz_S (.code y_AR_hasLevelTwoNeighbourElsewhere b_AR_hasLevelTwoNeighbourElsewhere 4 (some .boolean)) y_AR_hasLevelTwoNeighbourElsewhere b_AR_hasLevelTwoNeighbourElsewhere 4 (some .boolean) 1 := ⟨rfl, List.mem_of_getElem? (i := 627) (by decide +kernel), List.mem_of_getElem? (i := 96) (by decide +kernel), by decide +kernel, by decide +kernel⟩
theorem tz_AR_hasLevelTwoNeighbourElsewhere : cz_V y_AR_hasLevelTwoNeighbourElsewhere := ⟨List.mem_of_getElem? (i := 626) (by decide +kernel), List.mem_of_getElem? (i := 47) (by decide +kernel)⟩
abbrev b_He_firstMutual : ByteArray := prog_4_method_5_code
abbrev y_He_firstMutual : MethodName := ⟨"AreaRouters$Hearing", "firstMutual", "(II)I"⟩
theorem sz_He_firstMutual : cz_S (.code y_He_firstMutual b_He_firstMutual 4 (some .int)) y_He_firstMutual b_He_firstMutual 4 (some .int) 2 := ⟨rfl, List.mem_of_getElem? (i := 631) (by decide +kernel), List.mem_of_getElem? (i := 98) (by decide +kernel), by decide +kernel, by decide +kernel⟩
theorem tz_He_firstMutual : cz_V y_He_firstMutual := ⟨List.mem_of_getElem? (i := 630) (by decide +kernel), List.mem_of_getElem? (i := 48) (by decide +kernel)⟩
abbrev b_Wi_isShared : ByteArray := prog_6_method_7_code
abbrev y_Wi_isShared : MethodName := ⟨"AreaRouters$Wiring", "isShared", "(I)Z"⟩
theorem sz_Wi_isShared : cz_S (.code y_Wi_isShared b_Wi_isShared 2 (some .boolean)) y_Wi_isShared b_Wi_isShared 2 (some .boolean) 1 := ⟨rfl, List.mem_of_getElem? (i := 636) (by decide +kernel), List.mem_of_getElem? (i := 97) (by decide +kernel), by decide +kernel, by decide +kernel⟩
theorem tz_Wi_isShared : cz_V y_Wi_isShared := ⟨List.mem_of_getElem? (i := 635) (by decide +kernel), List.mem_of_getElem? (i := 49) (by decide +kernel)⟩
abbrev b_Wi_priorityOf : ByteArray := prog_6_method_4_code
abbrev y_Wi_priorityOf : MethodName := ⟨"AreaRouters$Wiring", "priorityOf", "(II)I"⟩
theorem sz_Wi_priorityOf : cz_S (.code y_Wi_priorityOf b_Wi_priorityOf 3 (some .int)) y_Wi_priorityOf b_Wi_priorityOf 3 (some .int) 2 := ⟨rfl, List.mem_of_getElem? (i := 343) (by decide +kernel), List.mem_of_getElem? (i := 97) (by decide +kernel), by decide +kernel, by decide +kernel⟩
theorem tz_Wi_priorityOf : cz_V y_Wi_priorityOf := ⟨List.mem_of_getElem? (i := 342) (by decide +kernel), List.mem_of_getElem? (i := 15) (by decide +kernel)⟩
abbrev b_AR_speakerSeenBy : ByteArray := prog_1_method_31_code
abbrev y_AR_speakerSeenBy : MethodName := ⟨"AreaRouters", "speakerSeenBy", "(III)I"⟩
theorem sz_AR_speakerSeenBy : cz_S (.code y_AR_speakerSeenBy b_AR_speakerSeenBy 7 (some .int)) y_AR_speakerSeenBy b_AR_speakerSeenBy 7 (some .int) 3 := ⟨rfl, List.mem_of_getElem? (i := 339) (by decide +kernel), List.mem_of_getElem? (i := 96) (by decide +kernel), by decide +kernel, by decide +kernel⟩
theorem tz_AR_speakerSeenBy : cz_V y_AR_speakerSeenBy := ⟨List.mem_of_getElem? (i := 338) (by decide +kernel), List.mem_of_getElem? (i := 14) (by decide +kernel)⟩
abbrev b_AR_nameOf : ByteArray := prog_1_method_21_code
abbrev y_AR_nameOf : MethodName := ⟨"AreaRouters", "nameOf", "(II)I"⟩
theorem sz_AR_nameOf : cz_S (.code y_AR_nameOf b_AR_nameOf 2 (some .int)) y_AR_nameOf b_AR_nameOf 2 (some .int) 2 := ⟨rfl, List.mem_of_getElem? (i := 377) (by decide +kernel), List.mem_of_getElem? (i := 96) (by decide +kernel), by decide +kernel, by decide +kernel⟩
theorem tz_AR_nameOf : Cond.static y_AR_nameOf ∈ lw_tbl := List.mem_of_getElem? (i := 376) (by decide +kernel)
abbrev b_Wi_metricOf : ByteArray := prog_6_method_3_code
abbrev y_Wi_metricOf : MethodName := ⟨"AreaRouters$Wiring", "metricOf", "(II)I"⟩
theorem sz_Wi_metricOf : cz_S (.code y_Wi_metricOf b_Wi_metricOf 3 (some .int)) y_Wi_metricOf b_Wi_metricOf 3 (some .int) 2 := ⟨rfl, List.mem_of_getElem? (i := 641) (by decide +kernel), List.mem_of_getElem? (i := 97) (by decide +kernel), by decide +kernel, by decide +kernel⟩
theorem tz_Wi_metricOf : cz_V y_Wi_metricOf := ⟨List.mem_of_getElem? (i := 640) (by decide +kernel), List.mem_of_getElem? (i := 50) (by decide +kernel)⟩
abbrev b_Dr_addLink : ByteArray := prog_3_method_3_code
abbrev y_Dr_addLink : MethodName := ⟨"AreaRouters$Draft", "addLink", "(II)V"⟩
theorem sz_Dr_addLink : cz_S (.code y_Dr_addLink b_Dr_addLink 3 none) y_Dr_addLink b_Dr_addLink 3 none 2 := ⟨rfl, List.mem_of_getElem? (i := 645) (by decide +kernel), List.mem_of_getElem? (i := 100) (by decide +kernel), by decide +kernel, by decide +kernel⟩
theorem tz_Dr_addLink : cz_V y_Dr_addLink := ⟨List.mem_of_getElem? (i := 644) (by decide +kernel), List.mem_of_getElem? (i := 51) (by decide +kernel)⟩
abbrev b_AR_draftItself : ByteArray := prog_1_method_34_code
abbrev y_AR_draftItself : MethodName := ⟨"AreaRouters", "draftItself", "(II)V"⟩
theorem sz_AR_draftItself : cz_S (.code y_AR_draftItself b_AR_draftItself 6 none) y_AR_draftItself b_AR_draftItself 6 none 2 := ⟨rfl, List.mem_of_getElem? (i := 623) (by decide +kernel), List.mem_of_getElem? (i := 96) (by decide +kernel), by decide +kernel, by decide +kernel⟩
theorem tz_AR_draftItself : cz_V y_AR_draftItself := ⟨List.mem_of_getElem? (i := 622) (by decide +kernel), List.mem_of_getElem? (i := 46) (by decide +kernel)⟩
abbrev b_AR_draftCircuit : ByteArray := prog_1_method_35_code
abbrev y_AR_draftCircuit : MethodName := ⟨"AreaRouters", "draftCircuit", "(III)Z"⟩
theorem sz_AR_draftCircuit : cz_S (.code y_AR_draftCircuit b_AR_draftCircuit 6 (some .boolean)) y_AR_draftCircuit b_AR_draftCircuit 6 (some .boolean) 3 := ⟨rfl, List.mem_of_getElem? (i := 649) (by decide +kernel), List.mem_of_getElem? (i := 96) (by decide +kernel), by decide +kernel, by decide +kernel⟩
theorem tz_AR_draftCircuit : cz_V y_AR_draftCircuit := ⟨List.mem_of_getElem? (i := 648) (by decide +kernel), List.mem_of_getElem? (i := 52) (by decide +kernel)⟩
abbrev b_AR_draftPart : ByteArray := prog_1_method_33_code
abbrev y_AR_draftPart : MethodName := ⟨"AreaRouters", "draftPart", "(III)Z"⟩
theorem sz_AR_draftPart : cz_S (.code y_AR_draftPart b_AR_draftPart 4 (some .boolean)) y_AR_draftPart b_AR_draftPart 4 (some .boolean) 3 := ⟨rfl, List.mem_of_getElem? (i := 615) (by decide +kernel), List.mem_of_getElem? (i := 96) (by decide +kernel), by decide +kernel, by decide +kernel⟩
theorem tz_AR_draftPart : cz_V y_AR_draftPart := ⟨List.mem_of_getElem? (i := 614) (by decide +kernel), List.mem_of_getElem? (i := 44) (by decide +kernel)⟩
abbrev b_Ba_renew : ByteArray := prog_2_method_17_code
abbrev y_Ba_renew : MethodName := ⟨"AreaRouters$Base", "renew", "(ILAreaRouters$Draft;I)V"⟩
theorem sz_Ba_renew : cz_S (.code y_Ba_renew b_Ba_renew 4 none) y_Ba_renew b_Ba_renew 4 none 3 := ⟨rfl, List.mem_of_getElem? (i := 653) (by decide +kernel), List.mem_of_getElem? (i := 99) (by decide +kernel), by decide +kernel, by decide +kernel⟩
theorem tz_Ba_renew : cz_V y_Ba_renew := ⟨List.mem_of_getElem? (i := 652) (by decide +kernel), List.mem_of_getElem? (i := 53) (by decide +kernel)⟩
abbrev b_Ba_end : ByteArray := prog_2_method_21_code
abbrev y_Ba_end : MethodName := ⟨"AreaRouters$Base", "end", "(II)V"⟩
theorem sz_Ba_end : cz_S (.code y_Ba_end b_Ba_end 3 none) y_Ba_end b_Ba_end 3 none 2 := ⟨rfl, List.mem_of_getElem? (i := 304) (by decide +kernel), List.mem_of_getElem? (i := 99) (by decide +kernel), by decide +kernel, by decide +kernel⟩
theorem tz_Ba_end : cz_V y_Ba_end := ⟨List.mem_of_getElem? (i := 303) (by decide +kernel), List.mem_of_getElem? (i := 8) (by decide +kernel)⟩
abbrev b_Ba_askNowhere : ByteArray := prog_2_method_10_code
abbrev y_Ba_askNowhere : MethodName := ⟨"AreaRouters$Base", "askNowhere", "(I)V"⟩
theorem sz_Ba_askNowhere : cz_S (.code y_Ba_askNowhere b_Ba_askNowhere 2 none) y_Ba_askNowhere b_Ba_askNowhere 2 none 1 := ⟨rfl, List.mem_of_getElem? (i := 658) (by decide +kernel), List.mem_of_getElem? (i := 99) (by decide +kernel), by decide +kernel, by decide +kernel⟩
theorem tz_Ba_askNowhere : cz_V y_Ba_askNowhere := ⟨List.mem_of_getElem? (i := 657) (by decide +kernel), List.mem_of_getElem? (i := 54) (by decide +kernel)⟩
abbrev b_AR_answerForOwn : ByteArray := prog_1_method_38_code
abbrev y_AR_answerForOwn : MethodName := ⟨"AreaRouters", "answerForOwn", "(III)V"⟩
theorem sz_AR_answerForOwn : cz_S (.code y_AR_answerForOwn b_AR_answerForOwn 5 none) y_AR_answerForOwn b_AR_answerForOwn 5 none 3 := ⟨rfl, List.mem_of_getElem? (i := 610) (by decide +kernel), List.mem_of_getElem? (i := 96) (by decide +kernel), by decide +kernel, by decide +kernel⟩
theorem tz_AR_answerForOwn : cz_V y_AR_answerForOwn := ⟨List.mem_of_getElem? (i := 609) (by decide +kernel), List.mem_of_getElem? (i := 43) (by decide +kernel)⟩
abbrev b_Ba_setDueOn : ByteArray := prog_2_method_9_code
abbrev y_Ba_setDueOn : MethodName := ⟨"AreaRouters$Base", "setDueOn", "(II)V"⟩
theorem sz_Ba_setDueOn : cz_S (.code y_Ba_setDueOn b_Ba_setDueOn 3 none) y_Ba_setDueOn b_Ba_setDueOn 3 none 2 := ⟨rfl, List.mem_of_getElem? (i := 662) (by decide +kernel), List.mem_of_getElem? (i := 99) (by decide +kernel), by decide +kernel, by decide +kernel⟩
theorem tz_Ba_setDueOn : cz_V y_Ba_setDueOn := ⟨List.mem_of_getElem? (i := 661) (by decide +kernel), List.mem_of_getElem? (i := 55) (by decide +kernel)⟩
abbrev b_AR_receive : ByteArray := prog_1_method_37_code
abbrev y_AR_receive : MethodName := ⟨"AreaRouters", "receive", "(IIILAreaRouters$Base;I)V"⟩
theorem sz_AR_receive : cz_S (.code y_AR_receive b_AR_receive 8 none) y_AR_receive b_AR_receive 8 none 5 := ⟨rfl, List.mem_of_getElem? (i := 581) (by decide +kernel), List.mem_of_getElem? (i := 96) (by decide +kernel), by decide +kernel, by decide +kernel⟩
theorem tz_AR_receive : cz_V y_AR_receive := ⟨List.mem_of_getElem? (i := 580) (by decide +kernel), List.mem_of_getElem? (i := 37) (by decide +kernel)⟩
abbrev b_AR_spread : ByteArray := prog_1_method_5_code
abbrev y_AR_spread : MethodName := ⟨"AreaRouters", "spread", "(IIII)I"⟩
theorem sz_AR_spread : cz_S (.code y_AR_spread b_AR_spread 9 (some .int)) y_AR_spread b_AR_spread 9 (some .int) 4 := ⟨rfl, List.mem_of_getElem? (i := 549) (by decide +kernel), List.mem_of_getElem? (i := 96) (by decide +kernel), by decide +kernel, by decide +kernel⟩
theorem tz_AR_spread : cz_V y_AR_spread := ⟨List.mem_of_getElem? (i := 547) (by decide +kernel), List.mem_of_getElem? (i := 548) (by decide +kernel)⟩
abbrev b_Ba_has : ByteArray := prog_2_method_2_code
abbrev y_Ba_has : MethodName := ⟨"AreaRouters$Base", "has", "(I)Z"⟩
theorem sz_Ba_has : cz_S (.code y_Ba_has b_Ba_has 2 (some .boolean)) y_Ba_has b_Ba_has 2 (some .boolean) 1 := ⟨rfl, List.mem_of_getElem? (i := 308) (by decide +kernel), List.mem_of_getElem? (i := 99) (by decide +kernel), by decide +kernel, by decide +kernel⟩
theorem tz_Ba_has : cz_V y_Ba_has := ⟨List.mem_of_getElem? (i := 307) (by decide +kernel), List.mem_of_getElem? (i := 9) (by decide +kernel)⟩
abbrev b_Ba_compareWithTold : ByteArray := prog_2_method_14_code
abbrev y_Ba_compareWithTold : MethodName := ⟨"AreaRouters$Base", "compareWithTold", "(LAreaRouters$Base;II)V"⟩
theorem sz_Ba_compareWithTold : cz_S (.code y_Ba_compareWithTold b_Ba_compareWithTold 5 none) y_Ba_compareWithTold b_Ba_compareWithTold 5 none 3 := ⟨rfl, List.mem_of_getElem? (i := 677) (by decide +kernel), List.mem_of_getElem? (i := 99) (by decide +kernel), by decide +kernel, by decide +kernel⟩
theorem tz_Ba_compareWithTold : cz_V y_Ba_compareWithTold := ⟨List.mem_of_getElem? (i := 676) (by decide +kernel), List.mem_of_getElem? (i := 57) (by decide +kernel)⟩
abbrev b_Ba_compareWithSummary : ByteArray := prog_2_method_15_code
abbrev y_Ba_compareWithSummary : MethodName := ⟨"AreaRouters$Base", "compareWithSummary", "(LAreaRouters$Base;I)V"⟩
theorem sz_Ba_compareWithSummary : cz_S (.code y_Ba_compareWithSummary b_Ba_compareWithSummary 4 none) y_Ba_compareWithSummary b_Ba_compareWithSummary 4 none 2 := ⟨rfl, List.mem_of_getElem? (i := 673) (by decide +kernel), List.mem_of_getElem? (i := 99) (by decide +kernel), by decide +kernel, by decide +kernel⟩
theorem tz_Ba_compareWithSummary : cz_V y_Ba_compareWithSummary := ⟨List.mem_of_getElem? (i := 672) (by decide +kernel), List.mem_of_getElem? (i := 56) (by decide +kernel)⟩
abbrev b_Ba_count : ByteArray := prog_2_method_4_code
abbrev y_Ba_count : MethodName := ⟨"AreaRouters$Base", "count", "()I"⟩
theorem sz_Ba_count : cz_S (.code y_Ba_count b_Ba_count 3 (some .int)) y_Ba_count b_Ba_count 3 (some .int) 0 := ⟨rfl, List.mem_of_getElem? (i := 684) (by decide +kernel), List.mem_of_getElem? (i := 99) (by decide +kernel), by decide +kernel, by decide +kernel⟩
theorem tz_Ba_count : cz_V y_Ba_count := ⟨List.mem_of_getElem? (i := 683) (by decide +kernel), List.mem_of_getElem? (i := 58) (by decide +kernel)⟩
abbrev b_AR_summary : ByteArray := prog_1_method_6_code
abbrev y_AR_summary : MethodName := ⟨"AreaRouters", "summary", "(IIII)I"⟩
theorem sz_AR_summary : cz_S (.code y_AR_summary b_AR_summary 7 (some .int)) y_AR_summary b_AR_summary 7 (some .int) 4 := ⟨rfl, List.mem_of_getElem? (i := 669) (by decide +kernel), List.mem_of_getElem? (i := 96) (by decide +kernel), by decide +kernel, by decide +kernel⟩
theorem tz_AR_summary : cz_V y_AR_summary := ⟨List.mem_of_getElem? (i := 667) (by decide +kernel), List.mem_of_getElem? (i := 668) (by decide +kernel)⟩
abbrev b_Ba_isAsked : ByteArray := prog_2_method_6_code
abbrev y_Ba_isAsked : MethodName := ⟨"AreaRouters$Base", "isAsked", "(II)Z"⟩
theorem sz_Ba_isAsked : cz_S (.code y_Ba_isAsked b_Ba_isAsked 3 (some .boolean)) y_Ba_isAsked b_Ba_isAsked 3 (some .boolean) 2 := ⟨rfl, List.mem_of_getElem? (i := 695) (by decide +kernel), List.mem_of_getElem? (i := 99) (by decide +kernel), by decide +kernel, by decide +kernel⟩
theorem tz_Ba_isAsked : cz_V y_Ba_isAsked := ⟨List.mem_of_getElem? (i := 694) (by decide +kernel), List.mem_of_getElem? (i := 59) (by decide +kernel)⟩
abbrev b_AR_request : ByteArray := prog_1_method_7_code
abbrev y_AR_request : MethodName := ⟨"AreaRouters", "request", "(IIII)I"⟩
theorem sz_AR_request : cz_S (.code y_AR_request b_AR_request 9 (some .int)) y_AR_request b_AR_request 9 (some .int) 4 := ⟨rfl, List.mem_of_getElem? (i := 691) (by decide +kernel), List.mem_of_getElem? (i := 96) (by decide +kernel), by decide +kernel, by decide +kernel⟩
theorem tz_AR_request : cz_V y_AR_request := ⟨List.mem_of_getElem? (i := 689) (by decide +kernel), List.mem_of_getElem? (i := 690) (by decide +kernel)⟩
abbrev b_Ba_linkOf : ByteArray := prog_2_method_20_code
abbrev y_Ba_linkOf : MethodName := ⟨"AreaRouters$Base", "linkOf", "(II)I"⟩
theorem sz_Ba_linkOf : cz_S (.code y_Ba_linkOf b_Ba_linkOf 3 (some .int)) y_Ba_linkOf b_Ba_linkOf 3 (some .int) 2 := ⟨rfl, List.mem_of_getElem? (i := 358) (by decide +kernel), List.mem_of_getElem? (i := 99) (by decide +kernel), by decide +kernel, by decide +kernel⟩
theorem tz_Ba_linkOf : cz_V y_Ba_linkOf := ⟨List.mem_of_getElem? (i := 357) (by decide +kernel), List.mem_of_getElem? (i := 17) (by decide +kernel)⟩
abbrev b_Ba_isStillTrue : ByteArray := prog_2_method_16_code
abbrev y_Ba_isStillTrue : MethodName := ⟨"AreaRouters$Base", "isStillTrue", "(ILAreaRouters$Draft;)Z"⟩
theorem sz_Ba_isStillTrue : cz_S (.code y_Ba_isStillTrue b_Ba_isStillTrue 4 (some .boolean)) y_Ba_isStillTrue b_Ba_isStillTrue 4 (some .boolean) 2 := ⟨rfl, List.mem_of_getElem? (i := 712) (by decide +kernel), List.mem_of_getElem? (i := 99) (by decide +kernel), by decide +kernel, by decide +kernel⟩
theorem tz_Ba_isStillTrue : cz_V y_Ba_isStillTrue := ⟨List.mem_of_getElem? (i := 711) (by decide +kernel), List.mem_of_getElem? (i := 61) (by decide +kernel)⟩
abbrev b_AR_bringUpToDate : ByteArray := prog_1_method_36_code
abbrev y_AR_bringUpToDate : MethodName := ⟨"AreaRouters", "bringUpToDate", "(III)Z"⟩
theorem sz_AR_bringUpToDate : cz_S (.code y_AR_bringUpToDate b_AR_bringUpToDate 6 (some .boolean)) y_AR_bringUpToDate b_AR_bringUpToDate 6 (some .boolean) 3 := ⟨rfl, List.mem_of_getElem? (i := 708) (by decide +kernel), List.mem_of_getElem? (i := 96) (by decide +kernel), by decide +kernel, by decide +kernel⟩
theorem tz_AR_bringUpToDate : cz_V y_AR_bringUpToDate := ⟨List.mem_of_getElem? (i := 707) (by decide +kernel), List.mem_of_getElem? (i := 60) (by decide +kernel)⟩
abbrev b_AR_describe : ByteArray := prog_1_method_8_code
abbrev y_AR_describe : MethodName := ⟨"AreaRouters", "describe", "(I)I"⟩
theorem sz_AR_describe : cz_S (.code y_AR_describe b_AR_describe 5 (some .int)) y_AR_describe b_AR_describe 5 (some .int) 1 := ⟨rfl, List.mem_of_getElem? (i := 703) (by decide +kernel), List.mem_of_getElem? (i := 96) (by decide +kernel), by decide +kernel, by decide +kernel⟩
theorem tz_AR_describe : cz_V y_AR_describe := ⟨List.mem_of_getElem? (i := 701) (by decide +kernel), List.mem_of_getElem? (i := 702) (by decide +kernel)⟩
abbrev b_He_age : ByteArray := prog_4_method_6_code
abbrev y_He_age : MethodName := ⟨"AreaRouters$Hearing", "age", "()V"⟩
theorem sz_He_age : cz_S (.code y_He_age b_He_age 2 none) y_He_age b_He_age 2 none 0 := ⟨rfl, List.mem_of_getElem? (i := 288) (by decide +kernel), List.mem_of_getElem? (i := 98) (by decide +kernel), by decide +kernel, by decide +kernel⟩
theorem tz_He_age : cz_V y_He_age := ⟨List.mem_of_getElem? (i := 287) (by decide +kernel), List.mem_of_getElem? (i := 4) (by decide +kernel)⟩
abbrev b_Ba_remove : ByteArray := prog_2_method_23_code
abbrev y_Ba_remove : MethodName := ⟨"AreaRouters$Base", "remove", "(I)V"⟩
theorem sz_Ba_remove : cz_S (.code y_Ba_remove b_Ba_remove 2 none) y_Ba_remove b_Ba_remove 2 none 1 := ⟨rfl, List.mem_of_getElem? (i := 312) (by decide +kernel), List.mem_of_getElem? (i := 99) (by decide +kernel), by decide +kernel, by decide +kernel⟩
theorem tz_Ba_remove : cz_V y_Ba_remove := ⟨List.mem_of_getElem? (i := 311) (by decide +kernel), List.mem_of_getElem? (i := 10) (by decide +kernel)⟩
abbrev b_Ba_age : ByteArray := prog_2_method_22_code
abbrev y_Ba_age : MethodName := ⟨"AreaRouters$Base", "age", "(I)V"⟩
theorem sz_Ba_age : cz_S (.code y_Ba_age b_Ba_age 3 none) y_Ba_age b_Ba_age 3 none 1 := ⟨rfl, List.mem_of_getElem? (i := 296) (by decide +kernel), List.mem_of_getElem? (i := 99) (by decide +kernel), by decide +kernel, by decide +kernel⟩
theorem tz_Ba_age : cz_V y_Ba_age := ⟨List.mem_of_getElem? (i := 295) (by decide +kernel), List.mem_of_getElem? (i := 6) (by decide +kernel)⟩
abbrev b_AR_tick : ByteArray := prog_1_method_9_code
abbrev y_AR_tick : MethodName := ⟨"AreaRouters", "tick", "()V"⟩
theorem sz_AR_tick : cz_S (.code y_AR_tick b_AR_tick 3 none) y_AR_tick b_AR_tick 3 none 0 := ⟨rfl, List.mem_of_getElem? (i := 284) (by decide +kernel), List.mem_of_getElem? (i := 96) (by decide +kernel), by decide +kernel, by decide +kernel⟩
theorem tz_AR_tick : cz_V y_AR_tick := ⟨List.mem_of_getElem? (i := 282) (by decide +kernel), List.mem_of_getElem? (i := 283) (by decide +kernel)⟩
abbrev b_AR_neighbour : ByteArray := prog_1_method_10_code
abbrev y_AR_neighbour : MethodName := ⟨"AreaRouters", "neighbour", "(IIII)Z"⟩
theorem sz_AR_neighbour : cz_S (.code y_AR_neighbour b_AR_neighbour 5 (some .boolean)) y_AR_neighbour b_AR_neighbour 5 (some .boolean) 4 := ⟨rfl, List.mem_of_getElem? (i := 316) (by decide +kernel), List.mem_of_getElem? (i := 96) (by decide +kernel), by decide +kernel, by decide +kernel⟩
theorem tz_AR_neighbour : cz_V y_AR_neighbour := ⟨List.mem_of_getElem? (i := 314) (by decide +kernel), List.mem_of_getElem? (i := 315) (by decide +kernel)⟩
abbrev b_AR_speaker : ByteArray := prog_1_method_11_code
abbrev y_AR_speaker : MethodName := ⟨"AreaRouters", "speaker", "(III)I"⟩
theorem sz_AR_speaker : cz_S (.code y_AR_speaker b_AR_speaker 4 (some .int)) y_AR_speaker b_AR_speaker 4 (some .int) 3 := ⟨rfl, List.mem_of_getElem? (i := 331) (by decide +kernel), List.mem_of_getElem? (i := 96) (by decide +kernel), by decide +kernel, by decide +kernel⟩
theorem tz_AR_speaker : cz_V y_AR_speaker := ⟨List.mem_of_getElem? (i := 329) (by decide +kernel), List.mem_of_getElem? (i := 330) (by decide +kernel)⟩
abbrev b_AR_isName : ByteArray := prog_1_method_19_code
abbrev y_AR_isName : MethodName := ⟨"AreaRouters", "isName", "(I)Z"⟩
theorem sz_AR_isName : cz_S (.code y_AR_isName b_AR_isName 1 (some .boolean)) y_AR_isName b_AR_isName 1 (some .boolean) 1 := ⟨rfl, List.mem_of_getElem? (i := 350) (by decide +kernel), List.mem_of_getElem? (i := 96) (by decide +kernel), by decide +kernel, by decide +kernel⟩
theorem tz_AR_isName : Cond.static y_AR_isName ∈ lw_tbl := List.mem_of_getElem? (i := 349) (by decide +kernel)
abbrev b_Ba_tell : ByteArray := prog_2_method_12_code
abbrev y_Ba_tell : MethodName := ⟨"AreaRouters$Base", "tell", "(II)I"⟩
theorem sz_Ba_tell : cz_S (.code y_Ba_tell b_Ba_tell 3 (some .int)) y_Ba_tell b_Ba_tell 3 (some .int) 2 := ⟨rfl, List.mem_of_getElem? (i := 354) (by decide +kernel), List.mem_of_getElem? (i := 99) (by decide +kernel), by decide +kernel, by decide +kernel⟩
theorem tz_Ba_tell : cz_V y_Ba_tell := ⟨List.mem_of_getElem? (i := 353) (by decide +kernel), List.mem_of_getElem? (i := 16) (by decide +kernel)⟩
abbrev b_AR_description : ByteArray := prog_1_method_12_code
abbrev y_AR_description : MethodName := ⟨"AreaRouters", "description", "(IIII)I"⟩
theorem sz_AR_description : cz_S (.code y_AR_description b_AR_description 5 (some .int)) y_AR_description b_AR_description 5 (some .int) 4 := ⟨rfl, List.mem_of_getElem? (i := 347) (by decide +kernel), List.mem_of_getElem? (i := 96) (by decide +kernel), by decide +kernel, by decide +kernel⟩
theorem tz_AR_description : cz_V y_AR_description := ⟨List.mem_of_getElem? (i := 345) (by decide +kernel), List.mem_of_getElem? (i := 346) (by decide +kernel)⟩
abbrev b_Ba_marksOf : ByteArray := prog_2_method_11_code
abbrev y_Ba_marksOf : MethodName := ⟨"AreaRouters$Base", "marksOf", "(I)I"⟩
theorem sz_Ba_marksOf : cz_S (.code y_Ba_marksOf b_Ba_marksOf 2 (some .int)) y_Ba_marksOf b_Ba_marksOf 2 (some .int) 1 := ⟨rfl, List.mem_of_getElem? (i := 366) (by decide +kernel), List.mem_of_getElem? (i := 99) (by decide +kernel), by decide +kernel, by decide +kernel⟩
theorem tz_Ba_marksOf : cz_V y_Ba_marksOf := ⟨List.mem_of_getElem? (i := 365) (by decide +kernel), List.mem_of_getElem? (i := 18) (by decide +kernel)⟩
abbrev b_AR_marks : ByteArray := prog_1_method_13_code
abbrev y_AR_marks : MethodName := ⟨"AreaRouters", "marks", "(III)I"⟩
theorem sz_AR_marks : cz_S (.code y_AR_marks b_AR_marks 4 (some .int)) y_AR_marks b_AR_marks 4 (some .int) 3 := ⟨rfl, List.mem_of_getElem? (i := 362) (by decide +kernel), List.mem_of_getElem? (i := 96) (by decide +kernel), by decide +kernel, by decide +kernel⟩
theorem tz_AR_marks : cz_V y_AR_marks := ⟨List.mem_of_getElem? (i := 360) (by decide +kernel), List.mem_of_getElem? (i := 361) (by decide +kernel)⟩
abbrev b_Wa_nextToSettle : ByteArray := prog_5_method_3_code
abbrev y_Wa_nextToSettle : MethodName := ⟨"AreaRouters$Ways", "nextToSettle", "()I"⟩
theorem sz_Wa_nextToSettle : cz_S (.code y_Wa_nextToSettle b_Wa_nextToSettle 3 (some .int)) y_Wa_nextToSettle b_Wa_nextToSettle 3 (some .int) 0 := ⟨rfl, List.mem_of_getElem? (i := 386) (by decide +kernel), List.mem_of_getElem? (i := 101) (by decide +kernel), by decide +kernel, by decide +kernel⟩
theorem tz_Wa_nextToSettle : cz_V y_Wa_nextToSettle := ⟨List.mem_of_getElem? (i := 385) (by decide +kernel), List.mem_of_getElem? (i := 21) (by decide +kernel)⟩
abbrev b_Ba_hasLink : ByteArray := prog_2_method_24_code
abbrev y_Ba_hasLink : MethodName := ⟨"AreaRouters$Base", "hasLink", "(II)Z"⟩
theorem sz_Ba_hasLink : cz_S (.code y_Ba_hasLink b_Ba_hasLink 4 (some .boolean)) y_Ba_hasLink b_Ba_hasLink 4 (some .boolean) 2 := ⟨rfl, List.mem_of_getElem? (i := 400) (by decide +kernel), List.mem_of_getElem? (i := 99) (by decide +kernel), by decide +kernel, by decide +kernel⟩
theorem tz_Ba_hasLink : cz_V y_Ba_hasLink := ⟨List.mem_of_getElem? (i := 399) (by decide +kernel), List.mem_of_getElem? (i := 23) (by decide +kernel)⟩
abbrev b_Wa_reach : ByteArray := prog_5_method_5_code
abbrev y_Wa_reach : MethodName := ⟨"AreaRouters$Ways", "reach", "(III)V"⟩
theorem sz_Wa_reach : cz_S (.code y_Wa_reach b_Wa_reach 5 none) y_Wa_reach b_Wa_reach 5 none 3 := ⟨rfl, List.mem_of_getElem? (i := 404) (by decide +kernel), List.mem_of_getElem? (i := 101) (by decide +kernel), by decide +kernel, by decide +kernel⟩
theorem tz_Wa_reach : cz_V y_Wa_reach := ⟨List.mem_of_getElem? (i := 403) (by decide +kernel), List.mem_of_getElem? (i := 24) (by decide +kernel)⟩
abbrev b_Wa_followLinks : ByteArray := prog_5_method_4_code
abbrev y_Wa_followLinks : MethodName := ⟨"AreaRouters$Ways", "followLinks", "(LAreaRouters$Base;I)V"⟩
theorem sz_Wa_followLinks : cz_S (.code y_Wa_followLinks b_Wa_followLinks 6 none) y_Wa_followLinks b_Wa_followLinks 6 none 2 := ⟨rfl, List.mem_of_getElem? (i := 393) (by decide +kernel), List.mem_of_getElem? (i := 101) (by decide +kernel), by decide +kernel, by decide +kernel⟩
theorem tz_Wa_followLinks : cz_V y_Wa_followLinks := ⟨List.mem_of_getElem? (i := 392) (by decide +kernel), List.mem_of_getElem? (i := 22) (by decide +kernel)⟩
abbrev b_Wa_find : ByteArray := prog_5_method_2_code
abbrev y_Wa_find : MethodName := ⟨"AreaRouters$Ways", "find", "(LAreaRouters$Base;I)V"⟩
theorem sz_Wa_find : cz_S (.code y_Wa_find b_Wa_find 5 none) y_Wa_find b_Wa_find 5 none 2 := ⟨rfl, List.mem_of_getElem? (i := 381) (by decide +kernel), List.mem_of_getElem? (i := 101) (by decide +kernel), by decide +kernel, by decide +kernel⟩
theorem tz_Wa_find : cz_V y_Wa_find := ⟨List.mem_of_getElem? (i := 380) (by decide +kernel), List.mem_of_getElem? (i := 20) (by decide +kernel)⟩
abbrev b_Wa_wayTo : ByteArray := prog_5_method_7_code
abbrev y_Wa_wayTo : MethodName := ⟨"AreaRouters$Ways", "wayTo", "(I)I"⟩
theorem sz_Wa_wayTo : cz_S (.code y_Wa_wayTo b_Wa_wayTo 4 (some .int)) y_Wa_wayTo b_Wa_wayTo 4 (some .int) 1 := ⟨rfl, List.mem_of_getElem? (i := 411) (by decide +kernel), List.mem_of_getElem? (i := 101) (by decide +kernel), by decide +kernel, by decide +kernel⟩
theorem tz_Wa_wayTo : cz_V y_Wa_wayTo := ⟨List.mem_of_getElem? (i := 410) (by decide +kernel), List.mem_of_getElem? (i := 25) (by decide +kernel)⟩
abbrev b_Wa_nearer : ByteArray := prog_5_method_6_code
abbrev y_Wa_nearer : MethodName := ⟨"AreaRouters$Ways", "nearer", "(II)I"⟩
theorem sz_Wa_nearer : cz_S (.code y_Wa_nearer b_Wa_nearer 4 (some .int)) y_Wa_nearer b_Wa_nearer 4 (some .int) 2 := ⟨rfl, List.mem_of_getElem? (i := 421) (by decide +kernel), List.mem_of_getElem? (i := 101) (by decide +kernel), by decide +kernel, by decide +kernel⟩
theorem tz_Wa_nearer : cz_V y_Wa_nearer := ⟨List.mem_of_getElem? (i := 420) (by decide +kernel), List.mem_of_getElem? (i := 27) (by decide +kernel)⟩
abbrev b_AR_wayToArea : ByteArray := prog_1_method_40_code
abbrev y_AR_wayToArea : MethodName := ⟨"AreaRouters", "wayToArea", "(II)I"⟩
theorem sz_AR_wayToArea : cz_S (.code y_AR_wayToArea b_AR_wayToArea 6 (some .int)) y_AR_wayToArea b_AR_wayToArea 6 (some .int) 2 := ⟨rfl, List.mem_of_getElem? (i := 417) (by decide +kernel), List.mem_of_getElem? (i := 96) (by decide +kernel), by decide +kernel, by decide +kernel⟩
theorem tz_AR_wayToArea : cz_V y_AR_wayToArea := ⟨List.mem_of_getElem? (i := 416) (by decide +kernel), List.mem_of_getElem? (i := 26) (by decide +kernel)⟩
abbrev b_AR_wayToExit : ByteArray := prog_1_method_41_code
abbrev y_AR_wayToExit : MethodName := ⟨"AreaRouters", "wayToExit", "(I)I"⟩
theorem sz_AR_wayToExit : cz_S (.code y_AR_wayToExit b_AR_wayToExit 5 (some .int)) y_AR_wayToExit b_AR_wayToExit 5 (some .int) 1 := ⟨rfl, List.mem_of_getElem? (i := 425) (by decide +kernel), List.mem_of_getElem? (i := 96) (by decide +kernel), by decide +kernel, by decide +kernel⟩
theorem tz_AR_wayToExit : cz_V y_AR_wayToExit := ⟨List.mem_of_getElem? (i := 424) (by decide +kernel), List.mem_of_getElem? (i := 28) (by decide +kernel)⟩
abbrev b_AR_wayFrom : ByteArray := prog_1_method_39_code
abbrev y_AR_wayFrom : MethodName := ⟨"AreaRouters", "wayFrom", "(II)I"⟩
theorem sz_AR_wayFrom : cz_S (.code y_AR_wayFrom b_AR_wayFrom 4 (some .int)) y_AR_wayFrom b_AR_wayFrom 4 (some .int) 2 := ⟨rfl, List.mem_of_getElem? (i := 374) (by decide +kernel), List.mem_of_getElem? (i := 96) (by decide +kernel), by decide +kernel, by decide +kernel⟩
theorem tz_AR_wayFrom : cz_V y_AR_wayFrom := ⟨List.mem_of_getElem? (i := 373) (by decide +kernel), List.mem_of_getElem? (i := 19) (by decide +kernel)⟩
abbrev b_AR_route : ByteArray := prog_1_method_14_code
abbrev y_AR_route : MethodName := ⟨"AreaRouters", "route", "(II)I"⟩
theorem sz_AR_route : cz_S (.code y_AR_route b_AR_route 3 (some .int)) y_AR_route b_AR_route 3 (some .int) 2 := ⟨rfl, List.mem_of_getElem? (i := 370) (by decide +kernel), List.mem_of_getElem? (i := 96) (by decide +kernel), by decide +kernel, by decide +kernel⟩
theorem tz_AR_route : cz_V y_AR_route := ⟨List.mem_of_getElem? (i := 368) (by decide +kernel), List.mem_of_getElem? (i := 369) (by decide +kernel)⟩
abbrev b_AR_trace : ByteArray := prog_1_method_15_code
abbrev y_AR_trace : MethodName := ⟨"AreaRouters", "trace", "(II)I"⟩
theorem sz_AR_trace : cz_S (.code y_AR_trace b_AR_trace 6 (some .int)) y_AR_trace b_AR_trace 6 (some .int) 2 := ⟨rfl, List.mem_of_getElem? (i := 429) (by decide +kernel), List.mem_of_getElem? (i := 96) (by decide +kernel), by decide +kernel, by decide +kernel⟩
theorem tz_AR_trace : cz_V y_AR_trace := ⟨List.mem_of_getElem? (i := 427) (by decide +kernel), List.mem_of_getElem? (i := 428) (by decide +kernel)⟩
theorem lk_Ba_43 : Cond.methodLink R_Ba 43 ⟨"AreaRouters$Base", "has", "(I)Z"⟩ ∈ lw_tbl := List.mem_of_getElem? (i := 305) (by decide +kernel)
theorem lk_Ba_47 : Cond.methodLink R_Ba 47 ⟨"AreaRouters$Base", "linkOf", "(II)I"⟩ ∈ lw_tbl := List.mem_of_getElem? (i := 355) (by decide +kernel)
theorem lk_Ba_51 : Cond.methodLink R_Ba 51 ⟨"AreaRouters$Base", "isAlive", "(I)Z"⟩ ∈ lw_tbl := List.mem_of_getElem? (i := 297) (by decide +kernel)
theorem lk_Ba_54 : Cond.methodLink R_Ba 54 ⟨"AreaRouters$Base", "orderAgainst", "(LAreaRouters$Base;I)I"⟩ ∈ lw_tbl := List.mem_of_getElem? (i := 678) (by decide +kernel)
theorem lk_Ba_58 : Cond.methodLink R_Ba 58 ⟨"AreaRouters$Base", "setDue", "(IIZ)V"⟩ ∈ lw_tbl := List.mem_of_getElem? (i := 679) (by decide +kernel)
theorem lk_Ba_62 : Cond.methodLink R_Ba 62 ⟨"AreaRouters$Base", "setAsked", "(IIZ)V"⟩ ∈ lw_tbl := List.mem_of_getElem? (i := 680) (by decide +kernel)
theorem lk_Ba_65 : Cond.methodLink R_Ba 65 ⟨"AreaRouters$Base", "compareWithTold", "(LAreaRouters$Base;II)V"⟩ ∈ lw_tbl := List.mem_of_getElem? (i := 674) (by decide +kernel)
theorem lk_Ba_83 : Cond.methodLink R_Ba 83 ⟨"AreaRouters$Base", "takeLinks", "(I[III)V"⟩ ∈ lw_tbl := List.mem_of_getElem? (i := 601) (by decide +kernel)
theorem lk_Ba_92 : Cond.methodLink R_Ba 92 ⟨"AreaRouters$Base", "end", "(II)V"⟩ ∈ lw_tbl := List.mem_of_getElem? (i := 301) (by decide +kernel)
theorem lk_Ba_96 : Cond.methodLink R_Ba 96 ⟨"AreaRouters$Base", "remove", "(I)V"⟩ ∈ lw_tbl := List.mem_of_getElem? (i := 309) (by decide +kernel)
theorem lk_He_19 : Cond.methodLink R_He 19 ⟨"AreaRouters$Hearing", "isMutual", "(III)Z"⟩ ∈ lw_tbl := List.mem_of_getElem? (i := 632) (by decide +kernel)
theorem lk_Wa_23 : Cond.methodLink R_Wa 23 ⟨"AreaRouters$Ways", "nextToSettle", "()I"⟩ ∈ lw_tbl := List.mem_of_getElem? (i := 383) (by decide +kernel)
theorem lk_Wa_27 : Cond.methodLink R_Wa 27 ⟨"AreaRouters$Ways", "followLinks", "(LAreaRouters$Base;I)V"⟩ ∈ lw_tbl := List.mem_of_getElem? (i := 390) (by decide +kernel)
theorem lk_Wa_31 : Cond.methodLinkNest R_Wa 31 ⟨"AreaRouters", "partOf", "(I)I"⟩ "AreaRouters" ∈ lw_tbl := List.mem_of_getElem? (i := 387) (by decide +kernel)
theorem lk_Wa_35 : Cond.methodLinkNest R_Wa 35 ⟨"AreaRouters$Base", "isAlive", "(I)Z"⟩ "AreaRouters" ∈ lw_tbl := List.mem_of_getElem? (i := 394) (by decide +kernel)
theorem lk_Wa_44 : Cond.methodLinkNest R_Wa 44 ⟨"AreaRouters$Base", "linkOf", "(II)I"⟩ "AreaRouters" ∈ lw_tbl := List.mem_of_getElem? (i := 395) (by decide +kernel)
theorem lk_Wa_48 : Cond.methodLinkNest R_Wa 48 ⟨"AreaRouters", "isName", "(I)Z"⟩ "AreaRouters" ∈ lw_tbl := List.mem_of_getElem? (i := 396) (by decide +kernel)
theorem lk_Wa_51 : Cond.methodLinkNest R_Wa 51 ⟨"AreaRouters$Base", "hasLink", "(II)Z"⟩ "AreaRouters" ∈ lw_tbl := List.mem_of_getElem? (i := 397) (by decide +kernel)
theorem lk_Wa_55 : Cond.methodLink R_Wa 55 ⟨"AreaRouters$Ways", "reach", "(III)V"⟩ ∈ lw_tbl := List.mem_of_getElem? (i := 401) (by decide +kernel)
theorem lk_Wa_59 : Cond.methodLinkNest R_Wa 59 ⟨"AreaRouters", "routerOf", "(I)I"⟩ "AreaRouters" ∈ lw_tbl := List.mem_of_getElem? (i := 405) (by decide +kernel)
theorem lk_Wa_62 : Cond.methodLinkNest R_Wa 62 ⟨"AreaRouters", "isRouter", "(I)Z"⟩ "AreaRouters" ∈ lw_tbl := List.mem_of_getElem? (i := 412) (by decide +kernel)
theorem lk_Wa_65 : Cond.methodLinkNest R_Wa 65 ⟨"AreaRouters", "nameOf", "(II)I"⟩ "AreaRouters" ∈ lw_tbl := List.mem_of_getElem? (i := 413) (by decide +kernel)
theorem lk_Wi_18 : Cond.methodLink R_Wi 18 ⟨"AreaRouters$Wiring", "isAttached", "(II)Z"⟩ ∈ lw_tbl := List.mem_of_getElem? (i := 261) (by decide +kernel)
theorem lk_Wi_22 : Cond.methodLink R_Wi 22 ⟨"AreaRouters$Wiring", "countOn", "(I)I"⟩ ∈ lw_tbl := List.mem_of_getElem? (i := 637) (by decide +kernel)
theorem lk_AR_102 : Cond.methodLinkNest R_AR 102 ⟨"AreaRouters$Wiring", "isShared", "(I)Z"⟩ "AreaRouters" ∈ lw_tbl := List.mem_of_getElem? (i := 633) (by decide +kernel)
theorem lk_AR_105 : Cond.methodLinkNest R_AR 105 ⟨"AreaRouters$Base", "setDue", "(IIZ)V"⟩ "AreaRouters" ∈ lw_tbl := List.mem_of_getElem? (i := 586) (by decide +kernel)
theorem lk_AR_109 : Cond.methodLinkNest R_AR 109 ⟨"AreaRouters$Base", "compareWithSummary", "(LAreaRouters$Base;I)V"⟩ "AreaRouters" ∈ lw_tbl := List.mem_of_getElem? (i := 670) (by decide +kernel)
theorem lk_AR_113 : Cond.methodLinkNest R_AR 113 ⟨"AreaRouters$Base", "count", "()I"⟩ "AreaRouters" ∈ lw_tbl := List.mem_of_getElem? (i := 681) (by decide +kernel)
theorem lk_AR_117 : Cond.methodLinkNest R_AR 117 ⟨"AreaRouters$Base", "isAsked", "(II)Z"⟩ "AreaRouters" ∈ lw_tbl := List.mem_of_getElem? (i := 692) (by decide +kernel)
theorem lk_AR_120 : Cond.methodLinkNest R_AR 120 ⟨"AreaRouters$Base", "setAsked", "(IIZ)V"⟩ "AreaRouters" ∈ lw_tbl := List.mem_of_getElem? (i := 590) (by decide +kernel)
theorem lk_AR_123 : Cond.methodLinkNest R_AR 123 ⟨"AreaRouters$Base", "compareWithTold", "(LAreaRouters$Base;II)V"⟩ "AreaRouters" ∈ lw_tbl := List.mem_of_getElem? (i := 696) (by decide +kernel)
theorem lk_AR_134 : Cond.methodLink R_AR 134 ⟨"AreaRouters", "hasLevel", "(II)Z"⟩ ∈ lw_tbl := List.mem_of_getElem? (i := 332) (by decide +kernel)
theorem lk_AR_137 : Cond.methodLink R_AR 137 ⟨"AreaRouters", "bringUpToDate", "(III)Z"⟩ ∈ lw_tbl := List.mem_of_getElem? (i := 705) (by decide +kernel)
theorem lk_AR_141 : Cond.methodLinkNest R_AR 141 ⟨"AreaRouters$Hearing", "age", "()V"⟩ "AreaRouters" ∈ lw_tbl := List.mem_of_getElem? (i := 285) (by decide +kernel)
theorem lk_AR_144 : Cond.methodLinkNest R_AR 144 ⟨"AreaRouters$Base", "age", "(I)V"⟩ "AreaRouters" ∈ lw_tbl := List.mem_of_getElem? (i := 293) (by decide +kernel)
theorem lk_AR_147 : Cond.methodLink R_AR 147 ⟨"AreaRouters", "isLevel", "(I)Z"⟩ ∈ lw_tbl := List.mem_of_getElem? (i := 317) (by decide +kernel)
theorem lk_AR_150 : Cond.methodLink R_AR 150 ⟨"AreaRouters", "hearingAt", "(I)LAreaRouters$Hearing;"⟩ ∈ lw_tbl := List.mem_of_getElem? (i := 320) (by decide +kernel)
theorem lk_AR_154 : Cond.methodLinkNest R_AR 154 ⟨"AreaRouters$Hearing", "isMutual", "(III)Z"⟩ "AreaRouters" ∈ lw_tbl := List.mem_of_getElem? (i := 324) (by decide +kernel)
theorem lk_AR_157 : Cond.methodLink R_AR 157 ⟨"AreaRouters", "speakerSeenBy", "(III)I"⟩ ∈ lw_tbl := List.mem_of_getElem? (i := 336) (by decide +kernel)
theorem lk_AR_161 : Cond.methodLink R_AR 161 ⟨"AreaRouters", "isName", "(I)Z"⟩ ∈ lw_tbl := List.mem_of_getElem? (i := 348) (by decide +kernel)
theorem lk_AR_164 : Cond.methodLinkNest R_AR 164 ⟨"AreaRouters$Base", "tell", "(II)I"⟩ "AreaRouters" ∈ lw_tbl := List.mem_of_getElem? (i := 351) (by decide +kernel)
theorem lk_AR_168 : Cond.methodLinkNest R_AR 168 ⟨"AreaRouters$Base", "marksOf", "(I)I"⟩ "AreaRouters" ∈ lw_tbl := List.mem_of_getElem? (i := 363) (by decide +kernel)
theorem lk_AR_171 : Cond.methodLink R_AR 171 ⟨"AreaRouters", "wayFrom", "(II)I"⟩ ∈ lw_tbl := List.mem_of_getElem? (i := 371) (by decide +kernel)
theorem lk_AR_186 : Cond.methodLinkNest R_AR 186 ⟨"AreaRouters$Hearing", "isHeard", "(III)Z"⟩ "AreaRouters" ∈ lw_tbl := List.mem_of_getElem? (i := 534) (by decide +kernel)
theorem lk_AR_189 : Cond.methodLinkNest R_AR 189 ⟨"AreaRouters$Hearing", "note", "(IIIZ)V"⟩ "AreaRouters" ∈ lw_tbl := List.mem_of_getElem? (i := 538) (by decide +kernel)
theorem lk_AR_193 : Cond.methodLinkNest R_AR 193 ⟨"AreaRouters$Wiring", "priorityOf", "(II)I"⟩ "AreaRouters" ∈ lw_tbl := List.mem_of_getElem? (i := 340) (by decide +kernel)
theorem lk_AR_196 : Cond.methodLinkNest R_AR 196 ⟨"AreaRouters$Draft", "begin", "(I)V"⟩ "AreaRouters" ∈ lw_tbl := List.mem_of_getElem? (i := 616) (by decide +kernel)
theorem lk_AR_199 : Cond.methodLink R_AR 199 ⟨"AreaRouters", "draftItself", "(II)V"⟩ ∈ lw_tbl := List.mem_of_getElem? (i := 620) (by decide +kernel)
theorem lk_AR_202 : Cond.methodLink R_AR 202 ⟨"AreaRouters", "draftCircuit", "(III)Z"⟩ ∈ lw_tbl := List.mem_of_getElem? (i := 646) (by decide +kernel)
theorem lk_AR_205 : Cond.methodLink R_AR 205 ⟨"AreaRouters", "hasLevelTwoNeighbourElsewhere", "(I)Z"⟩ ∈ lw_tbl := List.mem_of_getElem? (i := 624) (by decide +kernel)
theorem lk_AR_212 : Cond.methodLinkNest R_AR 212 ⟨"AreaRouters$Hearing", "firstMutual", "(II)I"⟩ "AreaRouters" ∈ lw_tbl := List.mem_of_getElem? (i := 628) (by decide +kernel)
theorem lk_AR_215 : Cond.methodLink R_AR 215 ⟨"AreaRouters", "nameOf", "(II)I"⟩ ∈ lw_tbl := List.mem_of_getElem? (i := 375) (by decide +kernel)
theorem lk_AR_218 : Cond.methodLinkNest R_AR 218 ⟨"AreaRouters$Wiring", "metricOf", "(II)I"⟩ "AreaRouters" ∈ lw_tbl := List.mem_of_getElem? (i := 638) (by decide +kernel)
theorem lk_AR_221 : Cond.methodLinkNest R_AR 221 ⟨"AreaRouters$Draft", "addLink", "(II)V"⟩ "AreaRouters" ∈ lw_tbl := List.mem_of_getElem? (i := 642) (by decide +kernel)
theorem lk_AR_224 : Cond.methodLink R_AR 224 ⟨"AreaRouters", "draftPart", "(III)Z"⟩ ∈ lw_tbl := List.mem_of_getElem? (i := 612) (by decide +kernel)
theorem lk_AR_227 : Cond.methodLinkNest R_AR 227 ⟨"AreaRouters$Base", "isStillTrue", "(ILAreaRouters$Draft;)Z"⟩ "AreaRouters" ∈ lw_tbl := List.mem_of_getElem? (i := 709) (by decide +kernel)
theorem lk_AR_231 : Cond.methodLinkNest R_AR 231 ⟨"AreaRouters$Base", "renew", "(ILAreaRouters$Draft;I)V"⟩ "AreaRouters" ∈ lw_tbl := List.mem_of_getElem? (i := 650) (by decide +kernel)
theorem lk_AR_235 : Cond.methodLinkNest R_AR 235 ⟨"AreaRouters$Base", "isAlive", "(I)Z"⟩ "AreaRouters" ∈ lw_tbl := List.mem_of_getElem? (i := 606) (by decide +kernel)
theorem lk_AR_238 : Cond.methodLinkNest R_AR 238 ⟨"AreaRouters$Base", "end", "(II)V"⟩ "AreaRouters" ∈ lw_tbl := List.mem_of_getElem? (i := 654) (by decide +kernel)
theorem lk_AR_241 : Cond.methodLinkNest R_AR 241 ⟨"AreaRouters$Base", "orderAgainst", "(LAreaRouters$Base;I)I"⟩ "AreaRouters" ∈ lw_tbl := List.mem_of_getElem? (i := 582) (by decide +kernel)
theorem lk_AR_245 : Cond.methodLinkNest R_AR 245 ⟨"AreaRouters$Base", "copyFrom", "(LAreaRouters$Base;I)V"⟩ "AreaRouters" ∈ lw_tbl := List.mem_of_getElem? (i := 594) (by decide +kernel)
theorem lk_AR_248 : Cond.methodLink R_AR 248 ⟨"AreaRouters", "routerOf", "(I)I"⟩ ∈ lw_tbl := List.mem_of_getElem? (i := 605) (by decide +kernel)
theorem lk_AR_251 : Cond.methodLink R_AR 251 ⟨"AreaRouters", "answerForOwn", "(III)V"⟩ ∈ lw_tbl := List.mem_of_getElem? (i := 607) (by decide +kernel)
theorem lk_AR_254 : Cond.methodLinkNest R_AR 254 ⟨"AreaRouters$Base", "setDueOn", "(II)V"⟩ "AreaRouters" ∈ lw_tbl := List.mem_of_getElem? (i := 659) (by decide +kernel)
theorem lk_AR_257 : Cond.methodLink R_AR 257 ⟨"AreaRouters", "partOf", "(I)I"⟩ ∈ lw_tbl := List.mem_of_getElem? (i := 611) (by decide +kernel)
theorem lk_AR_260 : Cond.methodLinkNest R_AR 260 ⟨"AreaRouters$Base", "askNowhere", "(I)V"⟩ "AreaRouters" ∈ lw_tbl := List.mem_of_getElem? (i := 655) (by decide +kernel)
theorem lk_AR_263 : Cond.methodLinkNest R_AR 263 ⟨"AreaRouters$Ways", "find", "(LAreaRouters$Base;I)V"⟩ "AreaRouters" ∈ lw_tbl := List.mem_of_getElem? (i := 378) (by decide +kernel)
theorem lk_AR_266 : Cond.methodLinkNest R_AR 266 ⟨"AreaRouters$Ways", "wayTo", "(I)I"⟩ "AreaRouters" ∈ lw_tbl := List.mem_of_getElem? (i := 408) (by decide +kernel)
theorem lk_AR_269 : Cond.methodLink R_AR 269 ⟨"AreaRouters", "wayToArea", "(II)I"⟩ ∈ lw_tbl := List.mem_of_getElem? (i := 414) (by decide +kernel)
theorem lk_AR_272 : Cond.methodLink R_AR 272 ⟨"AreaRouters", "wayToExit", "(I)I"⟩ ∈ lw_tbl := List.mem_of_getElem? (i := 422) (by decide +kernel)
theorem lk_AR_276 : Cond.methodLinkNest R_AR 276 ⟨"AreaRouters$Ways", "nearer", "(II)I"⟩ "AreaRouters" ∈ lw_tbl := List.mem_of_getElem? (i := 418) (by decide +kernel)
theorem lk_AR_51 : Cond.methodLink R_AR 51 ⟨"AreaRouters", "isRouter", "(I)Z"⟩ ∈ lw_tbl := List.mem_of_getElem? (i := 254) (by decide +kernel)
theorem lk_AR_55 : Cond.methodLinkNest R_AR 55 ⟨"AreaRouters$Wiring", "circuitsOf", "(I)I"⟩ "AreaRouters" ∈ lw_tbl := List.mem_of_getElem? (i := 257) (by decide +kernel)
theorem lk_AR_59 : Cond.methodLink R_AR 59 ⟨"AreaRouters", "isCircuit", "(I)Z"⟩ ∈ lw_tbl := List.mem_of_getElem? (i := 269) (by decide +kernel)
theorem lk_AR_62 : Cond.methodLinkNest R_AR 62 ⟨"AreaRouters$Wiring", "isAttached", "(II)Z"⟩ "AreaRouters" ∈ lw_tbl := List.mem_of_getElem? (i := 272) (by decide +kernel)
theorem lk_AR_66 : Cond.methodLinkNest R_AR 66 ⟨"AreaRouters$Wiring", "countOn", "(I)I"⟩ "AreaRouters" ∈ lw_tbl := List.mem_of_getElem? (i := 273) (by decide +kernel)
theorem lk_AR_69 : Cond.methodLinkNest R_AR 69 ⟨"AreaRouters$Wiring", "join", "(IIII)V"⟩ "AreaRouters" ∈ lw_tbl := List.mem_of_getElem? (i := 277) (by decide +kernel)
theorem lk_AR_73 : Cond.methodLink R_AR 73 ⟨"AreaRouters", "checkSender", "(II)V"⟩ ∈ lw_tbl := List.mem_of_getElem? (i := 439) (by decide +kernel)
theorem lk_AR_77 : Cond.methodLink R_AR 77 ⟨"AreaRouters", "isMeant", "(II)Z"⟩ ∈ lw_tbl := List.mem_of_getElem? (i := 527) (by decide +kernel)
theorem lk_AR_80 : Cond.methodLink R_AR 80 ⟨"AreaRouters", "noteHello", "(III)V"⟩ ∈ lw_tbl := List.mem_of_getElem? (i := 530) (by decide +kernel)
theorem lk_AR_84 : Cond.methodLink R_AR 84 ⟨"AreaRouters", "checkLevel", "(II)V"⟩ ∈ lw_tbl := List.mem_of_getElem? (i := 550) (by decide +kernel)
theorem lk_AR_87 : Cond.methodLink R_AR 87 ⟨"AreaRouters", "baseOf", "(II)LAreaRouters$Base;"⟩ ∈ lw_tbl := List.mem_of_getElem? (i := 289) (by decide +kernel)
theorem lk_AR_91 : Cond.methodLinkNest R_AR 91 ⟨"AreaRouters$Base", "isDue", "(II)Z"⟩ "AreaRouters" ∈ lw_tbl := List.mem_of_getElem? (i := 570) (by decide +kernel)
theorem lk_AR_94 : Cond.methodLink R_AR 94 ⟨"AreaRouters", "isReached", "(IIIII)Z"⟩ ∈ lw_tbl := List.mem_of_getElem? (i := 574) (by decide +kernel)
theorem lk_AR_98 : Cond.methodLink R_AR 98 ⟨"AreaRouters", "receive", "(IIILAreaRouters$Base;I)V"⟩ ∈ lw_tbl := List.mem_of_getElem? (i := 578) (by decide +kernel)
theorem lk_Wa_22 : Cond.constant R_Wa 22 (1000000) ∈ lw_tbl := List.mem_of_getElem? (i := 382) (by decide +kernel)
end
