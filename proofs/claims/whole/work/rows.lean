section
-- ===== PART A: goes FIRST, ahead of the names: the tables' words, and 'selects' of the private methods out of them =====
/-- a private method of a class that the tables say can be made, by its rows of tables_1 -/
def lw_okq (q : MethodName × Nat) : Prop := (q.1.cls ≠ "java/lang/invoke/MethodHandle" ∧ q.1.cls ≠ "java/lang/invoke/VarHandle") ∧ Cond.instantiable q.1.cls q.2 ∈ tables_1 ∧ Cond.privateMethod q.1 ∈ tables_1 ∧ Cond.instanceMethod q.1 ∈ tables_1
theorem lw_p0 : lw_okq (⟨"GlassJar$Jar", "draw", "()V"⟩, 10) := ⟨⟨by decide +kernel, by decide +kernel⟩, List.mem_of_getElem? (i := 55) (by decide +kernel), List.mem_of_getElem? (i := 61) (by decide +kernel), List.mem_of_getElem? (i := 62) (by decide +kernel)⟩
theorem lw_p1 : lw_okq (⟨"GlassJar$Jar", "layDays", "()V"⟩, 10) := ⟨⟨by decide +kernel, by decide +kernel⟩, List.mem_of_getElem? (i := 55) (by decide +kernel), List.mem_of_getElem? (i := 65) (by decide +kernel), List.mem_of_getElem? (i := 66) (by decide +kernel)⟩
theorem lw_p2 : lw_okq (⟨"GlassJar$Jar", "shakeRow", "()V"⟩, 10) := ⟨⟨by decide +kernel, by decide +kernel⟩, List.mem_of_getElem? (i := 55) (by decide +kernel), List.mem_of_getElem? (i := 72) (by decide +kernel), List.mem_of_getElem? (i := 73) (by decide +kernel)⟩
theorem lw_p3 : lw_okq (⟨"GlassJar$Jar", "lot", "(I)I"⟩, 10) := ⟨⟨by decide +kernel, by decide +kernel⟩, List.mem_of_getElem? (i := 55) (by decide +kernel), List.mem_of_getElem? (i := 76) (by decide +kernel), List.mem_of_getElem? (i := 77) (by decide +kernel)⟩
theorem lw_p4 : lw_okq (⟨"GlassJar$Jar", "swap", "(II)V"⟩, 10) := ⟨⟨by decide +kernel, by decide +kernel⟩, List.mem_of_getElem? (i := 55) (by decide +kernel), List.mem_of_getElem? (i := 89) (by decide +kernel), List.mem_of_getElem? (i := 90) (by decide +kernel)⟩
theorem lw_p5 : lw_okq (⟨"GlassJar$Jar", "turnRow", "()V"⟩, 10) := ⟨⟨by decide +kernel, by decide +kernel⟩, List.mem_of_getElem? (i := 55) (by decide +kernel), List.mem_of_getElem? (i := 96) (by decide +kernel), List.mem_of_getElem? (i := 97) (by decide +kernel)⟩
theorem lw_p6 : lw_okq (⟨"GlassJar$Jar", "drawRow", "()V"⟩, 10) := ⟨⟨by decide +kernel, by decide +kernel⟩, List.mem_of_getElem? (i := 55) (by decide +kernel), List.mem_of_getElem? (i := 100) (by decide +kernel), List.mem_of_getElem? (i := 101) (by decide +kernel)⟩
theorem lw_p7 : lw_okq (⟨"GlassJar$Jar", "closeGap", "(II)V"⟩, 10) := ⟨⟨by decide +kernel, by decide +kernel⟩, List.mem_of_getElem? (i := 55) (by decide +kernel), List.mem_of_getElem? (i := 104) (by decide +kernel), List.mem_of_getElem? (i := 105) (by decide +kernel)⟩
theorem lw_p8 : lw_okq (⟨"GlassJar$Tape", "hasRoomFor", "(I)Z"⟩, 5) := ⟨⟨by decide +kernel, by decide +kernel⟩, List.mem_of_getElem? (i := 22) (by decide +kernel), List.mem_of_getElem? (i := 261) (by decide +kernel), List.mem_of_getElem? (i := 262) (by decide +kernel)⟩
theorem lw_p9 : lw_okq (⟨"GlassJar", "refuse", "(I)I"⟩, 6) := ⟨⟨by decide +kernel, by decide +kernel⟩, List.mem_of_getElem? (i := 14) (by decide +kernel), List.mem_of_getElem? (i := 268) (by decide +kernel), List.mem_of_getElem? (i := 269) (by decide +kernel)⟩
theorem lw_p10 : lw_okq (⟨"GlassJar$Tape", "append", "(IJ)V"⟩, 5) := ⟨⟨by decide +kernel, by decide +kernel⟩, List.mem_of_getElem? (i := 22) (by decide +kernel), List.mem_of_getElem? (i := 274) (by decide +kernel), List.mem_of_getElem? (i := 275) (by decide +kernel)⟩
theorem lw_p11 : lw_okq (⟨"GlassJar$Tape", "read", "()I"⟩, 5) := ⟨⟨by decide +kernel, by decide +kernel⟩, List.mem_of_getElem? (i := 22) (by decide +kernel), List.mem_of_getElem? (i := 283) (by decide +kernel), List.mem_of_getElem? (i := 284) (by decide +kernel)⟩
theorem lw_p12 : lw_okq (⟨"GlassJar$Tape", "byteAt", "(I)I"⟩, 5) := ⟨⟨by decide +kernel, by decide +kernel⟩, List.mem_of_getElem? (i := 22) (by decide +kernel), List.mem_of_getElem? (i := 287) (by decide +kernel), List.mem_of_getElem? (i := 288) (by decide +kernel)⟩
theorem lw_p13 : lw_okq (⟨"GlassJar$Tape", "endOfDigits", "(II)I"⟩, 5) := ⟨⟨by decide +kernel, by decide +kernel⟩, List.mem_of_getElem? (i := 22) (by decide +kernel), List.mem_of_getElem? (i := 295) (by decide +kernel), List.mem_of_getElem? (i := 296) (by decide +kernel)⟩
theorem lw_p14 : lw_okq (⟨"GlassJar$Tape", "isDigit", "(I)Z"⟩, 5) := ⟨⟨by decide +kernel, by decide +kernel⟩, List.mem_of_getElem? (i := 22) (by decide +kernel), List.mem_of_getElem? (i := 299) (by decide +kernel), List.mem_of_getElem? (i := 300) (by decide +kernel)⟩
theorem lw_p15 : lw_okq (⟨"GlassJar$Tape", "valueOf", "(II)I"⟩, 5) := ⟨⟨by decide +kernel, by decide +kernel⟩, List.mem_of_getElem? (i := 22) (by decide +kernel), List.mem_of_getElem? (i := 303) (by decide +kernel), List.mem_of_getElem? (i := 304) (by decide +kernel)⟩
def lw_privs_1 : List (MethodName × Nat) := [(⟨"GlassJar$Jar", "draw", "()V"⟩, 10), (⟨"GlassJar$Jar", "layDays", "()V"⟩, 10), (⟨"GlassJar$Jar", "shakeRow", "()V"⟩, 10), (⟨"GlassJar$Jar", "lot", "(I)I"⟩, 10), (⟨"GlassJar$Jar", "swap", "(II)V"⟩, 10), (⟨"GlassJar$Jar", "turnRow", "()V"⟩, 10), (⟨"GlassJar$Jar", "drawRow", "()V"⟩, 10), (⟨"GlassJar$Jar", "closeGap", "(II)V"⟩, 10), (⟨"GlassJar$Tape", "hasRoomFor", "(I)Z"⟩, 5), (⟨"GlassJar", "refuse", "(I)I"⟩, 6), (⟨"GlassJar$Tape", "append", "(IJ)V"⟩, 5), (⟨"GlassJar$Tape", "read", "()I"⟩, 5), (⟨"GlassJar$Tape", "byteAt", "(I)I"⟩, 5), (⟨"GlassJar$Tape", "endOfDigits", "(II)I"⟩, 5), (⟨"GlassJar$Tape", "isDigit", "(I)Z"⟩, 5), (⟨"GlassJar$Tape", "valueOf", "(II)I"⟩, 5)]
theorem lw_r1 : ∀ q ∈ lw_privs_1, lw_okq q := List.forall_mem_cons.mpr ⟨lw_p0, List.forall_mem_cons.mpr ⟨lw_p1, List.forall_mem_cons.mpr ⟨lw_p2, List.forall_mem_cons.mpr ⟨lw_p3, List.forall_mem_cons.mpr ⟨lw_p4, List.forall_mem_cons.mpr ⟨lw_p5, List.forall_mem_cons.mpr ⟨lw_p6, List.forall_mem_cons.mpr ⟨lw_p7, List.forall_mem_cons.mpr ⟨lw_p8, List.forall_mem_cons.mpr ⟨lw_p9, List.forall_mem_cons.mpr ⟨lw_p10, List.forall_mem_cons.mpr ⟨lw_p11, List.forall_mem_cons.mpr ⟨lw_p12, List.forall_mem_cons.mpr ⟨lw_p13, List.forall_mem_cons.mpr ⟨lw_p14, List.forall_mem_cons.mpr ⟨lw_p15, fun _ h => absurd h List.not_mem_nil⟩⟩⟩⟩⟩⟩⟩⟩⟩⟩⟩⟩⟩⟩⟩⟩
theorem lw_p16 : lw_okq (⟨"GlassJar$Tape", "empty", "()V"⟩, 5) := ⟨⟨by decide +kernel, by decide +kernel⟩, List.mem_of_getElem? (i := 22) (by decide +kernel), List.mem_of_getElem? (i := 307) (by decide +kernel), List.mem_of_getElem? (i := 308) (by decide +kernel)⟩
theorem lw_p17 : lw_okq (⟨"GlassJar$Men", "enrol", "(III)I"⟩, 4) := ⟨⟨by decide +kernel, by decide +kernel⟩, List.mem_of_getElem? (i := 143) (by decide +kernel), List.mem_of_getElem? (i := 311) (by decide +kernel), List.mem_of_getElem? (i := 312) (by decide +kernel)⟩
theorem lw_p18 : lw_okq (⟨"GlassJar$Lottery", "jarAt", "(I)LGlassJar$Jar;"⟩, 8) := ⟨⟨by decide +kernel, by decide +kernel⟩, List.mem_of_getElem? (i := 49) (by decide +kernel), List.mem_of_getElem? (i := 323) (by decide +kernel), List.mem_of_getElem? (i := 324) (by decide +kernel)⟩
theorem lw_p19 : lw_okq (⟨"GlassJar$Jar", "prepare", "(IIII)V"⟩, 10) := ⟨⟨by decide +kernel, by decide +kernel⟩, List.mem_of_getElem? (i := 55) (by decide +kernel), List.mem_of_getElem? (i := 327) (by decide +kernel), List.mem_of_getElem? (i := 328) (by decide +kernel)⟩
theorem lw_p20 : lw_okq (⟨"GlassJar$Jar", "turnOver", "(Z)Z"⟩, 10) := ⟨⟨by decide +kernel, by decide +kernel⟩, List.mem_of_getElem? (i := 55) (by decide +kernel), List.mem_of_getElem? (i := 335) (by decide +kernel), List.mem_of_getElem? (i := 336) (by decide +kernel)⟩
theorem lw_p21 : lw_okq (⟨"GlassJar$Jar", "numberAt", "(I)I"⟩, 10) := ⟨⟨by decide +kernel, by decide +kernel⟩, List.mem_of_getElem? (i := 55) (by decide +kernel), List.mem_of_getElem? (i := 343) (by decide +kernel), List.mem_of_getElem? (i := 344) (by decide +kernel)⟩
theorem lw_p22 : lw_okq (⟨"GlassJar$Jar", "dayAt", "(I)I"⟩, 10) := ⟨⟨by decide +kernel, by decide +kernel⟩, List.mem_of_getElem? (i := 55) (by decide +kernel), List.mem_of_getElem? (i := 351) (by decide +kernel), List.mem_of_getElem? (i := 352) (by decide +kernel)⟩
theorem lw_p23 : lw_okq (⟨"GlassJar", "refuseLong", "(I)J"⟩, 6) := ⟨⟨by decide +kernel, by decide +kernel⟩, List.mem_of_getElem? (i := 14) (by decide +kernel), List.mem_of_getElem? (i := 365) (by decide +kernel), List.mem_of_getElem? (i := 366) (by decide +kernel)⟩
theorem lw_p24 : lw_okq (⟨"GlassJar$Jar", "monthSum", "(I)I"⟩, 10) := ⟨⟨by decide +kernel, by decide +kernel⟩, List.mem_of_getElem? (i := 55) (by decide +kernel), List.mem_of_getElem? (i := 370) (by decide +kernel), List.mem_of_getElem? (i := 371) (by decide +kernel)⟩
theorem lw_p25 : lw_okq (⟨"GlassJar$Ratio", "become", "(JJ)V"⟩, 2) := ⟨⟨by decide +kernel, by decide +kernel⟩, List.mem_of_getElem? (i := 192) (by decide +kernel), List.mem_of_getElem? (i := 381) (by decide +kernel), List.mem_of_getElem? (i := 382) (by decide +kernel)⟩
theorem lw_p26 : lw_okq (⟨"GlassJar$Ratio", "partAt", "(I)J"⟩, 2) := ⟨⟨by decide +kernel, by decide +kernel⟩, List.mem_of_getElem? (i := 192) (by decide +kernel), List.mem_of_getElem? (i := 392) (by decide +kernel), List.mem_of_getElem? (i := 393) (by decide +kernel)⟩
theorem lw_p27 : lw_okq (⟨"GlassJar$Jar", "leaning", "()J"⟩, 10) := ⟨⟨by decide +kernel, by decide +kernel⟩, List.mem_of_getElem? (i := 55) (by decide +kernel), List.mem_of_getElem? (i := 400) (by decide +kernel), List.mem_of_getElem? (i := 401) (by decide +kernel)⟩
theorem lw_p28 : lw_okq (⟨"GlassJar$Jar", "worstMonth", "()I"⟩, 10) := ⟨⟨by decide +kernel, by decide +kernel⟩, List.mem_of_getElem? (i := 55) (by decide +kernel), List.mem_of_getElem? (i := 411) (by decide +kernel), List.mem_of_getElem? (i := 412) (by decide +kernel)⟩
theorem lw_p29 : lw_okq (⟨"GlassJar$Jar", "monthDistance", "(I)J"⟩, 10) := ⟨⟨by decide +kernel, by decide +kernel⟩, List.mem_of_getElem? (i := 55) (by decide +kernel), List.mem_of_getElem? (i := 415) (by decide +kernel), List.mem_of_getElem? (i := 416) (by decide +kernel)⟩
theorem lw_p30 : lw_okq (⟨"GlassJar$Jar", "turnedPairs", "()I"⟩, 10) := ⟨⟨by decide +kernel, by decide +kernel⟩, List.mem_of_getElem? (i := 55) (by decide +kernel), List.mem_of_getElem? (i := 426) (by decide +kernel), List.mem_of_getElem? (i := 427) (by decide +kernel)⟩
theorem lw_p31 : lw_okq (⟨"GlassJar$Jar", "seenAbove", "(I)I"⟩, 10) := ⟨⟨by decide +kernel, by decide +kernel⟩, List.mem_of_getElem? (i := 55) (by decide +kernel), List.mem_of_getElem? (i := 433) (by decide +kernel), List.mem_of_getElem? (i := 434) (by decide +kernel)⟩
def lw_privs_2 : List (MethodName × Nat) := [(⟨"GlassJar$Tape", "empty", "()V"⟩, 5), (⟨"GlassJar$Men", "enrol", "(III)I"⟩, 4), (⟨"GlassJar$Lottery", "jarAt", "(I)LGlassJar$Jar;"⟩, 8), (⟨"GlassJar$Jar", "prepare", "(IIII)V"⟩, 10), (⟨"GlassJar$Jar", "turnOver", "(Z)Z"⟩, 10), (⟨"GlassJar$Jar", "numberAt", "(I)I"⟩, 10), (⟨"GlassJar$Jar", "dayAt", "(I)I"⟩, 10), (⟨"GlassJar", "refuseLong", "(I)J"⟩, 6), (⟨"GlassJar$Jar", "monthSum", "(I)I"⟩, 10), (⟨"GlassJar$Ratio", "become", "(JJ)V"⟩, 2), (⟨"GlassJar$Ratio", "partAt", "(I)J"⟩, 2), (⟨"GlassJar$Jar", "leaning", "()J"⟩, 10), (⟨"GlassJar$Jar", "worstMonth", "()I"⟩, 10), (⟨"GlassJar$Jar", "monthDistance", "(I)J"⟩, 10), (⟨"GlassJar$Jar", "turnedPairs", "()I"⟩, 10), (⟨"GlassJar$Jar", "seenAbove", "(I)I"⟩, 10)]
theorem lw_r2 : ∀ q ∈ lw_privs_2, lw_okq q := List.forall_mem_cons.mpr ⟨lw_p16, List.forall_mem_cons.mpr ⟨lw_p17, List.forall_mem_cons.mpr ⟨lw_p18, List.forall_mem_cons.mpr ⟨lw_p19, List.forall_mem_cons.mpr ⟨lw_p20, List.forall_mem_cons.mpr ⟨lw_p21, List.forall_mem_cons.mpr ⟨lw_p22, List.forall_mem_cons.mpr ⟨lw_p23, List.forall_mem_cons.mpr ⟨lw_p24, List.forall_mem_cons.mpr ⟨lw_p25, List.forall_mem_cons.mpr ⟨lw_p26, List.forall_mem_cons.mpr ⟨lw_p27, List.forall_mem_cons.mpr ⟨lw_p28, List.forall_mem_cons.mpr ⟨lw_p29, List.forall_mem_cons.mpr ⟨lw_p30, List.forall_mem_cons.mpr ⟨lw_p31, fun _ h => absurd h List.not_mem_nil⟩⟩⟩⟩⟩⟩⟩⟩⟩⟩⟩⟩⟩⟩⟩⟩
theorem lw_p32 : lw_okq (⟨"GlassJar$Jar", "markSeen", "(I)V"⟩, 10) := ⟨⟨by decide +kernel, by decide +kernel⟩, List.mem_of_getElem? (i := 55) (by decide +kernel), List.mem_of_getElem? (i := 443) (by decide +kernel), List.mem_of_getElem? (i := 444) (by decide +kernel)⟩
theorem lw_p33 : lw_okq (⟨"GlassJar", "isMan", "(I)Z"⟩, 6) := ⟨⟨by decide +kernel, by decide +kernel⟩, List.mem_of_getElem? (i := 14) (by decide +kernel), List.mem_of_getElem? (i := 451) (by decide +kernel), List.mem_of_getElem? (i := 452) (by decide +kernel)⟩
theorem lw_p34 : lw_okq (⟨"GlassJar$Men", "kindAt", "(I)I"⟩, 4) := ⟨⟨by decide +kernel, by decide +kernel⟩, List.mem_of_getElem? (i := 143) (by decide +kernel), List.mem_of_getElem? (i := 455) (by decide +kernel), List.mem_of_getElem? (i := 456) (by decide +kernel)⟩
theorem lw_p35 : lw_okq (⟨"GlassJar$Men", "birthdayAt", "(I)I"⟩, 4) := ⟨⟨by decide +kernel, by decide +kernel⟩, List.mem_of_getElem? (i := 143) (by decide +kernel), List.mem_of_getElem? (i := 460) (by decide +kernel), List.mem_of_getElem? (i := 461) (by decide +kernel)⟩
theorem lw_p36 : lw_okq (⟨"GlassJar$Men", "payAt", "(I)I"⟩, 4) := ⟨⟨by decide +kernel, by decide +kernel⟩, List.mem_of_getElem? (i := 143) (by decide +kernel), List.mem_of_getElem? (i := 464) (by decide +kernel), List.mem_of_getElem? (i := 465) (by decide +kernel)⟩
theorem lw_p37 : lw_okq (⟨"GlassJar$Lottery", "isCalledBy", "(LGlassJar$Jar;I)Z"⟩, 8) := ⟨⟨by decide +kernel, by decide +kernel⟩, List.mem_of_getElem? (i := 49) (by decide +kernel), List.mem_of_getElem? (i := 482) (by decide +kernel), List.mem_of_getElem? (i := 483) (by decide +kernel)⟩
theorem lw_p38 : lw_okq (⟨"GlassJar$Lottery", "numberOfMan", "(LGlassJar$Jar;I)I"⟩, 8) := ⟨⟨by decide +kernel, by decide +kernel⟩, List.mem_of_getElem? (i := 49) (by decide +kernel), List.mem_of_getElem? (i := 486) (by decide +kernel), List.mem_of_getElem? (i := 487) (by decide +kernel)⟩
theorem lw_p39 : lw_okq (⟨"GlassJar$Lottery", "isCalled", "(I)Z"⟩, 8) := ⟨⟨by decide +kernel, by decide +kernel⟩, List.mem_of_getElem? (i := 49) (by decide +kernel), List.mem_of_getElem? (i := 492) (by decide +kernel), List.mem_of_getElem? (i := 493) (by decide +kernel)⟩
theorem lw_p40 : lw_okq (⟨"GlassJar$Lottery", "serviceOf", "(LGlassJar$Jar;I)I"⟩, 8) := ⟨⟨by decide +kernel, by decide +kernel⟩, List.mem_of_getElem? (i := 49) (by decide +kernel), List.mem_of_getElem? (i := 500) (by decide +kernel), List.mem_of_getElem? (i := 501) (by decide +kernel)⟩
theorem lw_p41 : lw_okq (⟨"GlassJar$Lottery", "serviceBy", "(II)I"⟩, 8) := ⟨⟨by decide +kernel, by decide +kernel⟩, List.mem_of_getElem? (i := 49) (by decide +kernel), List.mem_of_getElem? (i := 505) (by decide +kernel), List.mem_of_getElem? (i := 506) (by decide +kernel)⟩
theorem lw_p42 : lw_okq (⟨"GlassJar$Lottery", "wageOf", "(LGlassJar$Jar;II)I"⟩, 8) := ⟨⟨by decide +kernel, by decide +kernel⟩, List.mem_of_getElem? (i := 49) (by decide +kernel), List.mem_of_getElem? (i := 516) (by decide +kernel), List.mem_of_getElem? (i := 517) (by decide +kernel)⟩
theorem lw_p43 : lw_okq (⟨"GlassJar$Lottery", "changeByService", "(II)I"⟩, 8) := ⟨⟨by decide +kernel, by decide +kernel⟩, List.mem_of_getElem? (i := 49) (by decide +kernel), List.mem_of_getElem? (i := 522) (by decide +kernel), List.mem_of_getElem? (i := 523) (by decide +kernel)⟩
theorem lw_p44 : lw_okq (⟨"GlassJar$Lottery", "lossLeft", "(I)I"⟩, 8) := ⟨⟨by decide +kernel, by decide +kernel⟩, List.mem_of_getElem? (i := 49) (by decide +kernel), List.mem_of_getElem? (i := 526) (by decide +kernel), List.mem_of_getElem? (i := 527) (by decide +kernel)⟩
theorem lw_p45 : lw_okq (⟨"GlassJar$Lottery", "findDoes", "(LGlassJar$Jar;ILGlassJar$Ratio;)Z"⟩, 8) := ⟨⟨by decide +kernel, by decide +kernel⟩, List.mem_of_getElem? (i := 49) (by decide +kernel), List.mem_of_getElem? (i := 535) (by decide +kernel), List.mem_of_getElem? (i := 536) (by decide +kernel)⟩
theorem lw_p46 : lw_okq (⟨"GlassJar$Sides", "clear", "()V"⟩, 4) := ⟨⟨by decide +kernel, by decide +kernel⟩, List.mem_of_getElem? (i := 173) (by decide +kernel), List.mem_of_getElem? (i := 539) (by decide +kernel), List.mem_of_getElem? (i := 540) (by decide +kernel)⟩
theorem lw_p47 : lw_okq (⟨"GlassJar$Sides", "enter", "(ZJ)V"⟩, 4) := ⟨⟨by decide +kernel, by decide +kernel⟩, List.mem_of_getElem? (i := 173) (by decide +kernel), List.mem_of_getElem? (i := 545) (by decide +kernel), List.mem_of_getElem? (i := 546) (by decide +kernel)⟩
def lw_privs_3 : List (MethodName × Nat) := [(⟨"GlassJar$Jar", "markSeen", "(I)V"⟩, 10), (⟨"GlassJar", "isMan", "(I)Z"⟩, 6), (⟨"GlassJar$Men", "kindAt", "(I)I"⟩, 4), (⟨"GlassJar$Men", "birthdayAt", "(I)I"⟩, 4), (⟨"GlassJar$Men", "payAt", "(I)I"⟩, 4), (⟨"GlassJar$Lottery", "isCalledBy", "(LGlassJar$Jar;I)Z"⟩, 8), (⟨"GlassJar$Lottery", "numberOfMan", "(LGlassJar$Jar;I)I"⟩, 8), (⟨"GlassJar$Lottery", "isCalled", "(I)Z"⟩, 8), (⟨"GlassJar$Lottery", "serviceOf", "(LGlassJar$Jar;I)I"⟩, 8), (⟨"GlassJar$Lottery", "serviceBy", "(II)I"⟩, 8), (⟨"GlassJar$Lottery", "wageOf", "(LGlassJar$Jar;II)I"⟩, 8), (⟨"GlassJar$Lottery", "changeByService", "(II)I"⟩, 8), (⟨"GlassJar$Lottery", "lossLeft", "(I)I"⟩, 8), (⟨"GlassJar$Lottery", "findDoes", "(LGlassJar$Jar;ILGlassJar$Ratio;)Z"⟩, 8), (⟨"GlassJar$Sides", "clear", "()V"⟩, 4), (⟨"GlassJar$Sides", "enter", "(ZJ)V"⟩, 4)]
theorem lw_r3 : ∀ q ∈ lw_privs_3, lw_okq q := List.forall_mem_cons.mpr ⟨lw_p32, List.forall_mem_cons.mpr ⟨lw_p33, List.forall_mem_cons.mpr ⟨lw_p34, List.forall_mem_cons.mpr ⟨lw_p35, List.forall_mem_cons.mpr ⟨lw_p36, List.forall_mem_cons.mpr ⟨lw_p37, List.forall_mem_cons.mpr ⟨lw_p38, List.forall_mem_cons.mpr ⟨lw_p39, List.forall_mem_cons.mpr ⟨lw_p40, List.forall_mem_cons.mpr ⟨lw_p41, List.forall_mem_cons.mpr ⟨lw_p42, List.forall_mem_cons.mpr ⟨lw_p43, List.forall_mem_cons.mpr ⟨lw_p44, List.forall_mem_cons.mpr ⟨lw_p45, List.forall_mem_cons.mpr ⟨lw_p46, List.forall_mem_cons.mpr ⟨lw_p47, fun _ h => absurd h List.not_mem_nil⟩⟩⟩⟩⟩⟩⟩⟩⟩⟩⟩⟩⟩⟩⟩⟩
theorem lw_p48 : lw_okq (⟨"GlassJar$Sides", "findGap", "(LGlassJar$Ratio;)Z"⟩, 4) := ⟨⟨by decide +kernel, by decide +kernel⟩, List.mem_of_getElem? (i := 173) (by decide +kernel), List.mem_of_getElem? (i := 549) (by decide +kernel), List.mem_of_getElem? (i := 550) (by decide +kernel)⟩
theorem lw_p49 : lw_okq (⟨"GlassJar", "partOrNone", "(ZI)J"⟩, 6) := ⟨⟨by decide +kernel, by decide +kernel⟩, List.mem_of_getElem? (i := 14) (by decide +kernel), List.mem_of_getElem? (i := 554) (by decide +kernel), List.mem_of_getElem? (i := 555) (by decide +kernel)⟩
theorem lw_p50 : lw_okq (⟨"GlassJar$Lottery", "findShare", "(LGlassJar$Jar;LGlassJar$Ratio;)Z"⟩, 8) := ⟨⟨by decide +kernel, by decide +kernel⟩, List.mem_of_getElem? (i := 49) (by decide +kernel), List.mem_of_getElem? (i := 562) (by decide +kernel), List.mem_of_getElem? (i := 563) (by decide +kernel)⟩
theorem lw_p51 : lw_okq (⟨"GlassJar$Lottery", "hasServed", "(II)Z"⟩, 8) := ⟨⟨by decide +kernel, by decide +kernel⟩, List.mem_of_getElem? (i := 49) (by decide +kernel), List.mem_of_getElem? (i := 566) (by decide +kernel), List.mem_of_getElem? (i := 567) (by decide +kernel)⟩
theorem lw_p52 : lw_okq (⟨"GlassJar$Lottery", "findServing", "(LGlassJar$Jar;ILGlassJar$Ratio;)Z"⟩, 8) := ⟨⟨by decide +kernel, by decide +kernel⟩, List.mem_of_getElem? (i := 49) (by decide +kernel), List.mem_of_getElem? (i := 574) (by decide +kernel), List.mem_of_getElem? (i := 575) (by decide +kernel)⟩
theorem lw_p53 : lw_okq (⟨"GlassJar$Lottery", "findTruly", "(LGlassJar$Jar;ILGlassJar$Ratio;)Z"⟩, 8) := ⟨⟨by decide +kernel, by decide +kernel⟩, List.mem_of_getElem? (i := 49) (by decide +kernel), List.mem_of_getElem? (i := 585) (by decide +kernel), List.mem_of_getElem? (i := 586) (by decide +kernel)⟩
theorem lw_p54 : lw_okq (⟨"GlassJar$Lottery", "servesOnlyIfCalled", "(II)Z"⟩, 8) := ⟨⟨by decide +kernel, by decide +kernel⟩, List.mem_of_getElem? (i := 49) (by decide +kernel), List.mem_of_getElem? (i := 589) (by decide +kernel), List.mem_of_getElem? (i := 590) (by decide +kernel)⟩
theorem lw_p55 : lw_okq (⟨"GlassJar$Ratio", "isWithin", "(J)Z"⟩, 2) := ⟨⟨by decide +kernel, by decide +kernel⟩, List.mem_of_getElem? (i := 192) (by decide +kernel), List.mem_of_getElem? (i := 597) (by decide +kernel), List.mem_of_getElem? (i := 598) (by decide +kernel)⟩
theorem lw_p56 : lw_okq (⟨"GlassJar$Lottery", "isShown", "(I)Z"⟩, 8) := ⟨⟨by decide +kernel, by decide +kernel⟩, List.mem_of_getElem? (i := 49) (by decide +kernel), List.mem_of_getElem? (i := 605) (by decide +kernel), List.mem_of_getElem? (i := 606) (by decide +kernel)⟩
theorem lw_p57 : lw_okq (⟨"GlassJar$Lottery", "menOfMonth", "(I)I"⟩, 8) := ⟨⟨by decide +kernel, by decide +kernel⟩, List.mem_of_getElem? (i := 49) (by decide +kernel), List.mem_of_getElem? (i := 609) (by decide +kernel), List.mem_of_getElem? (i := 610) (by decide +kernel)⟩
theorem lw_p58 : lw_okq (⟨"GlassJar$Lottery", "findGroup", "(LGlassJar$Jar;IILGlassJar$Ratio;)V"⟩, 8) := ⟨⟨by decide +kernel, by decide +kernel⟩, List.mem_of_getElem? (i := 49) (by decide +kernel), List.mem_of_getElem? (i := 617) (by decide +kernel), List.mem_of_getElem? (i := 618) (by decide +kernel)⟩
theorem lw_p59 : lw_okq (⟨"GlassJar$Lottery", "leastCutFor", "(LGlassJar$Jar;I)I"⟩, 8) := ⟨⟨by decide +kernel, by decide +kernel⟩, List.mem_of_getElem? (i := 49) (by decide +kernel), List.mem_of_getElem? (i := 637) (by decide +kernel), List.mem_of_getElem? (i := 638) (by decide +kernel)⟩
theorem lw_p60 : lw_okq (⟨"GlassJar$Lottery", "menWithNumberUpTo", "(LGlassJar$Jar;I)I"⟩, 8) := ⟨⟨by decide +kernel, by decide +kernel⟩, List.mem_of_getElem? (i := 49) (by decide +kernel), List.mem_of_getElem? (i := 641) (by decide +kernel), List.mem_of_getElem? (i := 642) (by decide +kernel)⟩
theorem lw_p61 : lw_okq (⟨"GlassJar$Lottery", "copyLottery", "(LGlassJar$Lottery;)V"⟩, 8) := ⟨⟨by decide +kernel, by decide +kernel⟩, List.mem_of_getElem? (i := 49) (by decide +kernel), List.mem_of_getElem? (i := 649) (by decide +kernel), List.mem_of_getElem? (i := 650) (by decide +kernel)⟩
theorem lw_p62 : lw_okq (⟨"GlassJar$Jar", "copyJar", "(LGlassJar$Jar;)V"⟩, 10) := ⟨⟨by decide +kernel, by decide +kernel⟩, List.mem_of_getElem? (i := 55) (by decide +kernel), List.mem_of_getElem? (i := 653) (by decide +kernel), List.mem_of_getElem? (i := 654) (by decide +kernel)⟩
theorem lw_p63 : lw_okq (⟨"GlassJar$Men", "copyMen", "(LGlassJar$Men;)V"⟩, 4) := ⟨⟨by decide +kernel, by decide +kernel⟩, List.mem_of_getElem? (i := 143) (by decide +kernel), List.mem_of_getElem? (i := 662) (by decide +kernel), List.mem_of_getElem? (i := 663) (by decide +kernel)⟩
def lw_privs_4 : List (MethodName × Nat) := [(⟨"GlassJar$Sides", "findGap", "(LGlassJar$Ratio;)Z"⟩, 4), (⟨"GlassJar", "partOrNone", "(ZI)J"⟩, 6), (⟨"GlassJar$Lottery", "findShare", "(LGlassJar$Jar;LGlassJar$Ratio;)Z"⟩, 8), (⟨"GlassJar$Lottery", "hasServed", "(II)Z"⟩, 8), (⟨"GlassJar$Lottery", "findServing", "(LGlassJar$Jar;ILGlassJar$Ratio;)Z"⟩, 8), (⟨"GlassJar$Lottery", "findTruly", "(LGlassJar$Jar;ILGlassJar$Ratio;)Z"⟩, 8), (⟨"GlassJar$Lottery", "servesOnlyIfCalled", "(II)Z"⟩, 8), (⟨"GlassJar$Ratio", "isWithin", "(J)Z"⟩, 2), (⟨"GlassJar$Lottery", "isShown", "(I)Z"⟩, 8), (⟨"GlassJar$Lottery", "menOfMonth", "(I)I"⟩, 8), (⟨"GlassJar$Lottery", "findGroup", "(LGlassJar$Jar;IILGlassJar$Ratio;)V"⟩, 8), (⟨"GlassJar$Lottery", "leastCutFor", "(LGlassJar$Jar;I)I"⟩, 8), (⟨"GlassJar$Lottery", "menWithNumberUpTo", "(LGlassJar$Jar;I)I"⟩, 8), (⟨"GlassJar$Lottery", "copyLottery", "(LGlassJar$Lottery;)V"⟩, 8), (⟨"GlassJar$Jar", "copyJar", "(LGlassJar$Jar;)V"⟩, 10), (⟨"GlassJar$Men", "copyMen", "(LGlassJar$Men;)V"⟩, 4)]
theorem lw_r4 : ∀ q ∈ lw_privs_4, lw_okq q := List.forall_mem_cons.mpr ⟨lw_p48, List.forall_mem_cons.mpr ⟨lw_p49, List.forall_mem_cons.mpr ⟨lw_p50, List.forall_mem_cons.mpr ⟨lw_p51, List.forall_mem_cons.mpr ⟨lw_p52, List.forall_mem_cons.mpr ⟨lw_p53, List.forall_mem_cons.mpr ⟨lw_p54, List.forall_mem_cons.mpr ⟨lw_p55, List.forall_mem_cons.mpr ⟨lw_p56, List.forall_mem_cons.mpr ⟨lw_p57, List.forall_mem_cons.mpr ⟨lw_p58, List.forall_mem_cons.mpr ⟨lw_p59, List.forall_mem_cons.mpr ⟨lw_p60, List.forall_mem_cons.mpr ⟨lw_p61, List.forall_mem_cons.mpr ⟨lw_p62, List.forall_mem_cons.mpr ⟨lw_p63, fun _ h => absurd h List.not_mem_nil⟩⟩⟩⟩⟩⟩⟩⟩⟩⟩⟩⟩⟩⟩⟩⟩
theorem lw_p64 : lw_okq (⟨"GlassJar$Lottery", "menWhoServed", "(LGlassJar$Jar;)I"⟩, 8) := ⟨⟨by decide +kernel, by decide +kernel⟩, List.mem_of_getElem? (i := 49) (by decide +kernel), List.mem_of_getElem? (i := 676) (by decide +kernel), List.mem_of_getElem? (i := 677) (by decide +kernel)⟩
theorem lw_p65 : lw_okq (⟨"GlassJarModel", "no", "(I)I"⟩, 28) := ⟨⟨by decide +kernel, by decide +kernel⟩, List.mem_of_getElem? (i := 680) (by decide +kernel), List.mem_of_getElem? (i := 779) (by decide +kernel), List.mem_of_getElem? (i := 780) (by decide +kernel)⟩
theorem lw_p66 : lw_okq (⟨"GlassJarModel", "numberOf", "(II)I"⟩, 28) := ⟨⟨by decide +kernel, by decide +kernel⟩, List.mem_of_getElem? (i := 680) (by decide +kernel), List.mem_of_getElem? (i := 794) (by decide +kernel), List.mem_of_getElem? (i := 795) (by decide +kernel)⟩
theorem lw_p67 : lw_okq (⟨"GlassJarModel", "draws", "(I)V"⟩, 28) := ⟨⟨by decide +kernel, by decide +kernel⟩, List.mem_of_getElem? (i := 680) (by decide +kernel), List.mem_of_getElem? (i := 798) (by decide +kernel), List.mem_of_getElem? (i := 799) (by decide +kernel)⟩
theorem lw_p68 : lw_okq (⟨"GlassJarModel", "lot", "(I)I"⟩, 28) := ⟨⟨by decide +kernel, by decide +kernel⟩, List.mem_of_getElem? (i := 680) (by decide +kernel), List.mem_of_getElem? (i := 802) (by decide +kernel), List.mem_of_getElem? (i := 803) (by decide +kernel)⟩
theorem lw_p69 : lw_okq (⟨"GlassJarModel", "changes", "(II)V"⟩, 28) := ⟨⟨by decide +kernel, by decide +kernel⟩, List.mem_of_getElem? (i := 680) (by decide +kernel), List.mem_of_getElem? (i := 809) (by decide +kernel), List.mem_of_getElem? (i := 810) (by decide +kernel)⟩
theorem lw_p70 : lw_okq (⟨"GlassJarModel", "noLong", "(I)J"⟩, 28) := ⟨⟨by decide +kernel, by decide +kernel⟩, List.mem_of_getElem? (i := 680) (by decide +kernel), List.mem_of_getElem? (i := 827) (by decide +kernel), List.mem_of_getElem? (i := 828) (by decide +kernel)⟩
theorem lw_p71 : lw_okq (⟨"GlassJarModel", "sumOf", "(II)J"⟩, 28) := ⟨⟨by decide +kernel, by decide +kernel⟩, List.mem_of_getElem? (i := 680) (by decide +kernel), List.mem_of_getElem? (i := 835) (by decide +kernel), List.mem_of_getElem? (i := 836) (by decide +kernel)⟩
theorem lw_p72 : lw_okq (⟨"GlassJarModel", "firstOf", "(I)I"⟩, 28) := ⟨⟨by decide +kernel, by decide +kernel⟩, List.mem_of_getElem? (i := 680) (by decide +kernel), List.mem_of_getElem? (i := 839) (by decide +kernel), List.mem_of_getElem? (i := 840) (by decide +kernel)⟩
theorem lw_p73 : lw_okq (⟨"GlassJarModel", "lessens", "(JJ)V"⟩, 28) := ⟨⟨by decide +kernel, by decide +kernel⟩, List.mem_of_getElem? (i := 680) (by decide +kernel), List.mem_of_getElem? (i := 843) (by decide +kernel), List.mem_of_getElem? (i := 844) (by decide +kernel)⟩
theorem lw_p74 : lw_okq (⟨"GlassJarModel", "told", "(I)J"⟩, 28) := ⟨⟨by decide +kernel, by decide +kernel⟩, List.mem_of_getElem? (i := 680) (by decide +kernel), List.mem_of_getElem? (i := 847) (by decide +kernel), List.mem_of_getElem? (i := 848) (by decide +kernel)⟩
theorem lw_p75 : lw_okq (⟨"GlassJarModel", "offOf", "(II)J"⟩, 28) := ⟨⟨by decide +kernel, by decide +kernel⟩, List.mem_of_getElem? (i := 680) (by decide +kernel), List.mem_of_getElem? (i := 862) (by decide +kernel), List.mem_of_getElem? (i := 863) (by decide +kernel)⟩
theorem lw_p76 : lw_okq (⟨"GlassJarModel", "reads", "()Z"⟩, 28) := ⟨⟨by decide +kernel, by decide +kernel⟩, List.mem_of_getElem? (i := 680) (by decide +kernel), List.mem_of_getElem? (i := 879) (by decide +kernel), List.mem_of_getElem? (i := 880) (by decide +kernel)⟩
theorem lw_p77 : lw_okq (⟨"GlassJarModel", "sign", "()I"⟩, 28) := ⟨⟨by decide +kernel, by decide +kernel⟩, List.mem_of_getElem? (i := 680) (by decide +kernel), List.mem_of_getElem? (i := 883) (by decide +kernel), List.mem_of_getElem? (i := 884) (by decide +kernel)⟩
theorem lw_p78 : lw_okq (⟨"GlassJarModel", "number", "(I)I"⟩, 28) := ⟨⟨by decide +kernel, by decide +kernel⟩, List.mem_of_getElem? (i := 680) (by decide +kernel), List.mem_of_getElem? (i := 887) (by decide +kernel), List.mem_of_getElem? (i := 888) (by decide +kernel)⟩
theorem lw_p79 : lw_okq (⟨"GlassJarModel", "isMan", "(I)Z"⟩, 28) := ⟨⟨by decide +kernel, by decide +kernel⟩, List.mem_of_getElem? (i := 680) (by decide +kernel), List.mem_of_getElem? (i := 895) (by decide +kernel), List.mem_of_getElem? (i := 896) (by decide +kernel)⟩
def lw_privs_5 : List (MethodName × Nat) := [(⟨"GlassJar$Lottery", "menWhoServed", "(LGlassJar$Jar;)I"⟩, 8), (⟨"GlassJarModel", "no", "(I)I"⟩, 28), (⟨"GlassJarModel", "numberOf", "(II)I"⟩, 28), (⟨"GlassJarModel", "draws", "(I)V"⟩, 28), (⟨"GlassJarModel", "lot", "(I)I"⟩, 28), (⟨"GlassJarModel", "changes", "(II)V"⟩, 28), (⟨"GlassJarModel", "noLong", "(I)J"⟩, 28), (⟨"GlassJarModel", "sumOf", "(II)J"⟩, 28), (⟨"GlassJarModel", "firstOf", "(I)I"⟩, 28), (⟨"GlassJarModel", "lessens", "(JJ)V"⟩, 28), (⟨"GlassJarModel", "told", "(I)J"⟩, 28), (⟨"GlassJarModel", "offOf", "(II)J"⟩, 28), (⟨"GlassJarModel", "reads", "()Z"⟩, 28), (⟨"GlassJarModel", "sign", "()I"⟩, 28), (⟨"GlassJarModel", "number", "(I)I"⟩, 28), (⟨"GlassJarModel", "isMan", "(I)Z"⟩, 28)]
theorem lw_r5 : ∀ q ∈ lw_privs_5, lw_okq q := List.forall_mem_cons.mpr ⟨lw_p64, List.forall_mem_cons.mpr ⟨lw_p65, List.forall_mem_cons.mpr ⟨lw_p66, List.forall_mem_cons.mpr ⟨lw_p67, List.forall_mem_cons.mpr ⟨lw_p68, List.forall_mem_cons.mpr ⟨lw_p69, List.forall_mem_cons.mpr ⟨lw_p70, List.forall_mem_cons.mpr ⟨lw_p71, List.forall_mem_cons.mpr ⟨lw_p72, List.forall_mem_cons.mpr ⟨lw_p73, List.forall_mem_cons.mpr ⟨lw_p74, List.forall_mem_cons.mpr ⟨lw_p75, List.forall_mem_cons.mpr ⟨lw_p76, List.forall_mem_cons.mpr ⟨lw_p77, List.forall_mem_cons.mpr ⟨lw_p78, List.forall_mem_cons.mpr ⟨lw_p79, fun _ h => absurd h List.not_mem_nil⟩⟩⟩⟩⟩⟩⟩⟩⟩⟩⟩⟩⟩⟩⟩⟩
theorem lw_p80 : lw_okq (⟨"GlassJarModel", "isCalled", "(II)Z"⟩, 28) := ⟨⟨by decide +kernel, by decide +kernel⟩, List.mem_of_getElem? (i := 680) (by decide +kernel), List.mem_of_getElem? (i := 911) (by decide +kernel), List.mem_of_getElem? (i := 912) (by decide +kernel)⟩
theorem lw_p81 : lw_okq (⟨"GlassJarModel", "servedAs", "(II)I"⟩, 28) := ⟨⟨by decide +kernel, by decide +kernel⟩, List.mem_of_getElem? (i := 680) (by decide +kernel), List.mem_of_getElem? (i := 919) (by decide +kernel), List.mem_of_getElem? (i := 920) (by decide +kernel)⟩
theorem lw_p82 : lw_okq (⟨"GlassJarModel", "wageOf", "(III)J"⟩, 28) := ⟨⟨by decide +kernel, by decide +kernel⟩, List.mem_of_getElem? (i := 680) (by decide +kernel), List.mem_of_getElem? (i := 930) (by decide +kernel), List.mem_of_getElem? (i := 931) (by decide +kernel)⟩
theorem lw_p83 : lw_okq (⟨"GlassJarModel", "lossIn", "(I)I"⟩, 28) := ⟨⟨by decide +kernel, by decide +kernel⟩, List.mem_of_getElem? (i := 680) (by decide +kernel), List.mem_of_getElem? (i := 934) (by decide +kernel), List.mem_of_getElem? (i := 935) (by decide +kernel)⟩
theorem lw_p84 : lw_okq (⟨"GlassJarModel", "notAsked", "(II)I"⟩, 28) := ⟨⟨by decide +kernel, by decide +kernel⟩, List.mem_of_getElem? (i := 680) (by decide +kernel), List.mem_of_getElem? (i := 942) (by decide +kernel), List.mem_of_getElem? (i := 943) (by decide +kernel)⟩
theorem lw_p85 : lw_okq (⟨"GlassJarModel", "differs", "(II)Z"⟩, 28) := ⟨⟨by decide +kernel, by decide +kernel⟩, List.mem_of_getElem? (i := 680) (by decide +kernel), List.mem_of_getElem? (i := 946) (by decide +kernel), List.mem_of_getElem? (i := 947) (by decide +kernel)⟩
theorem lw_p86 : lw_okq (⟨"GlassJarModel", "hasServed", "(II)Z"⟩, 28) := ⟨⟨by decide +kernel, by decide +kernel⟩, List.mem_of_getElem? (i := 680) (by decide +kernel), List.mem_of_getElem? (i := 950) (by decide +kernel), List.mem_of_getElem? (i := 951) (by decide +kernel)⟩
theorem lw_p87 : lw_okq (⟨"GlassJarModel", "bornIn", "(I)I"⟩, 28) := ⟨⟨by decide +kernel, by decide +kernel⟩, List.mem_of_getElem? (i := 680) (by decide +kernel), List.mem_of_getElem? (i := 974) (by decide +kernel), List.mem_of_getElem? (i := 975) (by decide +kernel)⟩
theorem lw_p88 : lw_okq (⟨"GlassJarModel", "monthOf", "(I)I"⟩, 28) := ⟨⟨by decide +kernel, by decide +kernel⟩, List.mem_of_getElem? (i := 680) (by decide +kernel), List.mem_of_getElem? (i := 978) (by decide +kernel), List.mem_of_getElem? (i := 979) (by decide +kernel)⟩
theorem lw_p89 : lw_okq (⟨"GlassJarModel", "passesAll", "()V"⟩, 28) := ⟨⟨by decide +kernel, by decide +kernel⟩, List.mem_of_getElem? (i := 680) (by decide +kernel), List.mem_of_getElem? (i := 1003) (by decide +kernel), List.mem_of_getElem? (i := 1004) (by decide +kernel)⟩
theorem lw_p90 : lw_okq (⟨"GlassJarModel", "passes", "([I)V"⟩, 28) := ⟨⟨by decide +kernel, by decide +kernel⟩, List.mem_of_getElem? (i := 680) (by decide +kernel), List.mem_of_getElem? (i := 1007) (by decide +kernel), List.mem_of_getElem? (i := 1008) (by decide +kernel)⟩
theorem lw_p91 : lw_okq (⟨"GlassJarModel", "passOne", "(I)I"⟩, 28) := ⟨⟨by decide +kernel, by decide +kernel⟩, List.mem_of_getElem? (i := 680) (by decide +kernel), List.mem_of_getElem? (i := 1011) (by decide +kernel), List.mem_of_getElem? (i := 1012) (by decide +kernel)⟩
def lw_privs_6 : List (MethodName × Nat) := [(⟨"GlassJarModel", "isCalled", "(II)Z"⟩, 28), (⟨"GlassJarModel", "servedAs", "(II)I"⟩, 28), (⟨"GlassJarModel", "wageOf", "(III)J"⟩, 28), (⟨"GlassJarModel", "lossIn", "(I)I"⟩, 28), (⟨"GlassJarModel", "notAsked", "(II)I"⟩, 28), (⟨"GlassJarModel", "differs", "(II)Z"⟩, 28), (⟨"GlassJarModel", "hasServed", "(II)Z"⟩, 28), (⟨"GlassJarModel", "bornIn", "(I)I"⟩, 28), (⟨"GlassJarModel", "monthOf", "(I)I"⟩, 28), (⟨"GlassJarModel", "passesAll", "()V"⟩, 28), (⟨"GlassJarModel", "passes", "([I)V"⟩, 28), (⟨"GlassJarModel", "passOne", "(I)I"⟩, 28)]
theorem lw_r6 : ∀ q ∈ lw_privs_6, lw_okq q := List.forall_mem_cons.mpr ⟨lw_p80, List.forall_mem_cons.mpr ⟨lw_p81, List.forall_mem_cons.mpr ⟨lw_p82, List.forall_mem_cons.mpr ⟨lw_p83, List.forall_mem_cons.mpr ⟨lw_p84, List.forall_mem_cons.mpr ⟨lw_p85, List.forall_mem_cons.mpr ⟨lw_p86, List.forall_mem_cons.mpr ⟨lw_p87, List.forall_mem_cons.mpr ⟨lw_p88, List.forall_mem_cons.mpr ⟨lw_p89, List.forall_mem_cons.mpr ⟨lw_p90, List.forall_mem_cons.mpr ⟨lw_p91, fun _ h => absurd h List.not_mem_nil⟩⟩⟩⟩⟩⟩⟩⟩⟩⟩⟩⟩
def lw_privs : List (MethodName × Nat) := lw_privs_1 ++ (lw_privs_2 ++ (lw_privs_3 ++ (lw_privs_4 ++ (lw_privs_5 ++ (lw_privs_6)))))
def lw_tbl : List Cond := k2_sels lw_privs ++ tables_1
theorem lw_privs_ok : ∀ q ∈ lw_privs, lw_okq q := by
  show ∀ q ∈ lw_privs_1 ++ (lw_privs_2 ++ (lw_privs_3 ++ (lw_privs_4 ++ (lw_privs_5 ++ (lw_privs_6))))), lw_okq q
  exact List.forall_mem_append.mpr ⟨lw_r1, List.forall_mem_append.mpr ⟨lw_r2, List.forall_mem_append.mpr ⟨lw_r3, List.forall_mem_append.mpr ⟨lw_r4, List.forall_mem_append.mpr ⟨lw_r5, lw_r6⟩⟩⟩⟩⟩
-- ===== end of PART A; then your names; then what follows =====
end
section
def RX0 : String := "GlassJar$Jar"
def TX0 : u_T := fun k => match k with
  | 0 => ("GlassJar$Jar", "seed", "I", false)
  | 1 => ("GlassJar$Jar", "shakes", "I", false)
  | 2 => ("GlassJar$Jar", "spread", "I", false)
  | 3 => ("GlassJar$Jar", "depth", "I", false)
  | 4 => ("GlassJar$Jar", "poured", "Z", false)
  | 5 => ("GlassJar$Jar", "numberOfDay", "[I", true)
  | 6 => ("GlassJar$Jar", "dayOfNumber", "[I", true)
  | 7 => ("GlassJar$Jar", "row", "[I", true)
  | 8 => ("GlassJar$Jar", "seen", "[J", true)
  | _ => ("GlassJar$Jar", "lotState", "I", false)
def tyX0 : Nat → FieldType := fun k => match k with
  | 0 => .int
  | 1 => .int
  | 2 => .int
  | 3 => .int
  | 4 => .boolean
  | 5 => .array .int
  | 6 => .array .int
  | 7 => .array .int
  | 8 => .array .long
  | _ => .int
theorem nmX0 : ∀ a, a < 10 → ∀ b, b < 10 → a ≠ b → (TX0 a).2.1 ≠ (TX0 b).2.1 := by decide +kernel
theorem tyX0_ok : ∀ k, k < 10 → parseFieldDescriptor (TX0 k).2.2.1 = some (tyX0 k) := by decide +kernel
abbrev cX0_init : ByteArray := prog_2_method_1_code
def yX0_init : MethodName := ⟨RX0, "<init>", "()V"⟩
abbrev cX0_prepare : ByteArray := prog_2_method_2_code
def yX0_prepare : MethodName := ⟨RX0, "prepare", "(IIII)V"⟩
abbrev cX0_turnOver : ByteArray := prog_2_method_3_code
def yX0_turnOver : MethodName := ⟨RX0, "turnOver", "(Z)Z"⟩
abbrev cX0_copyJar : ByteArray := prog_2_method_4_code
def yX0_copyJar : MethodName := ⟨RX0, "copyJar", "(LGlassJar$Jar;)V"⟩
abbrev cX0_draw : ByteArray := prog_2_method_5_code
def yX0_draw : MethodName := ⟨RX0, "draw", "()V"⟩
abbrev cX0_lot : ByteArray := prog_2_method_6_code
def yX0_lot : MethodName := ⟨RX0, "lot", "(I)I"⟩
abbrev cX0_layDays : ByteArray := prog_2_method_7_code
def yX0_layDays : MethodName := ⟨RX0, "layDays", "()V"⟩
abbrev cX0_shakeRow : ByteArray := prog_2_method_8_code
def yX0_shakeRow : MethodName := ⟨RX0, "shakeRow", "()V"⟩
abbrev cX0_turnRow : ByteArray := prog_2_method_9_code
def yX0_turnRow : MethodName := ⟨RX0, "turnRow", "()V"⟩
abbrev cX0_drawRow : ByteArray := prog_2_method_10_code
def yX0_drawRow : MethodName := ⟨RX0, "drawRow", "()V"⟩
abbrev cX0_swap : ByteArray := prog_2_method_11_code
def yX0_swap : MethodName := ⟨RX0, "swap", "(II)V"⟩
abbrev cX0_closeGap : ByteArray := prog_2_method_12_code
def yX0_closeGap : MethodName := ⟨RX0, "closeGap", "(II)V"⟩
abbrev cX0_numberAt : ByteArray := prog_2_method_13_code
def yX0_numberAt : MethodName := ⟨RX0, "numberAt", "(I)I"⟩
abbrev cX0_dayAt : ByteArray := prog_2_method_14_code
def yX0_dayAt : MethodName := ⟨RX0, "dayAt", "(I)I"⟩
abbrev cX0_monthSum : ByteArray := prog_2_method_15_code
def yX0_monthSum : MethodName := ⟨RX0, "monthSum", "(I)I"⟩
abbrev cX0_leaning : ByteArray := prog_2_method_16_code
def yX0_leaning : MethodName := ⟨RX0, "leaning", "()J"⟩
abbrev cX0_worstMonth : ByteArray := prog_2_method_17_code
def yX0_worstMonth : MethodName := ⟨RX0, "worstMonth", "()I"⟩
abbrev cX0_monthDistance : ByteArray := prog_2_method_18_code
def yX0_monthDistance : MethodName := ⟨RX0, "monthDistance", "(I)J"⟩
abbrev cX0_turnedPairs : ByteArray := prog_2_method_19_code
def yX0_turnedPairs : MethodName := ⟨RX0, "turnedPairs", "()I"⟩
abbrev cX0_seenAbove : ByteArray := prog_2_method_20_code
def yX0_seenAbove : MethodName := ⟨RX0, "seenAbove", "(I)I"⟩
abbrev cX0_markSeen : ByteArray := prog_2_method_21_code
def yX0_markSeen : MethodName := ⟨RX0, "markSeen", "(I)V"⟩
def RX1 : String := "GlassJar$Lottery"
def TX1 : u_T := fun k => match k with
  | 0 => ("GlassJar$Lottery", "firstJar", "LGlassJar$Jar;", true)
  | 1 => ("GlassJar$Lottery", "secondJar", "LGlassJar$Jar;", true)
  | 2 => ("GlassJar$Lottery", "men", "LGlassJar$Men;", true)
  | 3 => ("GlassJar$Lottery", "laws", "[I", true)
  | 4 => ("GlassJar$Lottery", "cutNumber", "I", false)
  | 5 => ("GlassJar$Lottery", "leastMen", "I", false)
  | 6 => ("GlassJar$Lottery", "sides", "LGlassJar$Sides;", true)
  | _ => ("GlassJar$Lottery", "shareRatio", "LGlassJar$Ratio;", true)
def tyX1 : Nat → FieldType := fun k => match k with
  | 0 => .object "GlassJar$Jar"
  | 1 => .object "GlassJar$Jar"
  | 2 => .object "GlassJar$Men"
  | 3 => .array .int
  | 4 => .int
  | 5 => .int
  | 6 => .object "GlassJar$Sides"
  | _ => .object "GlassJar$Ratio"
theorem nmX1 : ∀ a, a < 8 → ∀ b, b < 8 → a ≠ b → (TX1 a).2.1 ≠ (TX1 b).2.1 := by decide +kernel
theorem tyX1_ok : ∀ k, k < 8 → parseFieldDescriptor (TX1 k).2.2.1 = some (tyX1 k) := by decide +kernel
abbrev cX1_init : ByteArray := prog_3_method_1_code
def yX1_init : MethodName := ⟨RX1, "<init>", "()V"⟩
abbrev cX1_copyLottery : ByteArray := prog_3_method_2_code
def yX1_copyLottery : MethodName := ⟨RX1, "copyLottery", "(LGlassJar$Lottery;)V"⟩
abbrev cX1_jarAt : ByteArray := prog_3_method_3_code
def yX1_jarAt : MethodName := ⟨RX1, "jarAt", "(I)LGlassJar$Jar;"⟩
abbrev cX1_numberOfMan : ByteArray := prog_3_method_4_code
def yX1_numberOfMan : MethodName := ⟨RX1, "numberOfMan", "(LGlassJar$Jar;I)I"⟩
abbrev cX1_isEven : ByteArray := prog_3_method_5_code
def yX1_isEven : MethodName := ⟨RX1, "isEven", "(I)Z"⟩
abbrev cX1_isCalled : ByteArray := prog_3_method_6_code
def yX1_isCalled : MethodName := ⟨RX1, "isCalled", "(I)Z"⟩
abbrev cX1_isCalledBy : ByteArray := prog_3_method_7_code
def yX1_isCalledBy : MethodName := ⟨RX1, "isCalledBy", "(LGlassJar$Jar;I)Z"⟩
abbrev cX1_serviceOf : ByteArray := prog_3_method_8_code
def yX1_serviceOf : MethodName := ⟨RX1, "serviceOf", "(LGlassJar$Jar;I)I"⟩
abbrev cX1_serviceBy : ByteArray := prog_3_method_9_code
def yX1_serviceBy : MethodName := ⟨RX1, "serviceBy", "(II)I"⟩
abbrev cX1_hasServed : ByteArray := prog_3_method_10_code
def yX1_hasServed : MethodName := ⟨RX1, "hasServed", "(II)Z"⟩
abbrev cX1_menWhoServed : ByteArray := prog_3_method_11_code
def yX1_menWhoServed : MethodName := ⟨RX1, "menWhoServed", "(LGlassJar$Jar;)I"⟩
abbrev cX1_lossLeft : ByteArray := prog_3_method_12_code
def yX1_lossLeft : MethodName := ⟨RX1, "lossLeft", "(I)I"⟩
abbrev cX1_changeByService : ByteArray := prog_3_method_13_code
def yX1_changeByService : MethodName := ⟨RX1, "changeByService", "(II)I"⟩
abbrev cX1_wageOf : ByteArray := prog_3_method_14_code
def yX1_wageOf : MethodName := ⟨RX1, "wageOf", "(LGlassJar$Jar;II)I"⟩
abbrev cX1_findDoes : ByteArray := prog_3_method_15_code
def yX1_findDoes : MethodName := ⟨RX1, "findDoes", "(LGlassJar$Jar;ILGlassJar$Ratio;)Z"⟩
abbrev cX1_findShare : ByteArray := prog_3_method_16_code
def yX1_findShare : MethodName := ⟨RX1, "findShare", "(LGlassJar$Jar;LGlassJar$Ratio;)Z"⟩
abbrev cX1_findServing : ByteArray := prog_3_method_17_code
def yX1_findServing : MethodName := ⟨RX1, "findServing", "(LGlassJar$Jar;ILGlassJar$Ratio;)Z"⟩
abbrev cX1_findTruly : ByteArray := prog_3_method_18_code
def yX1_findTruly : MethodName := ⟨RX1, "findTruly", "(LGlassJar$Jar;ILGlassJar$Ratio;)Z"⟩
abbrev cX1_servesOnlyIfCalled : ByteArray := prog_3_method_19_code
def yX1_servesOnlyIfCalled : MethodName := ⟨RX1, "servesOnlyIfCalled", "(II)Z"⟩
abbrev cX1_menOfMonth : ByteArray := prog_3_method_20_code
def yX1_menOfMonth : MethodName := ⟨RX1, "menOfMonth", "(I)I"⟩
abbrev cX1_isShown : ByteArray := prog_3_method_21_code
def yX1_isShown : MethodName := ⟨RX1, "isShown", "(I)Z"⟩
abbrev cX1_findGroup : ByteArray := prog_3_method_22_code
def yX1_findGroup : MethodName := ⟨RX1, "findGroup", "(LGlassJar$Jar;IILGlassJar$Ratio;)V"⟩
abbrev cX1_menWithNumberUpTo : ByteArray := prog_3_method_23_code
def yX1_menWithNumberUpTo : MethodName := ⟨RX1, "menWithNumberUpTo", "(LGlassJar$Jar;I)I"⟩
abbrev cX1_leastCutFor : ByteArray := prog_3_method_24_code
def yX1_leastCutFor : MethodName := ⟨RX1, "leastCutFor", "(LGlassJar$Jar;I)I"⟩
def RX2 : String := "GlassJar$Men"
def TX2 : u_T := fun k => match k with
  | 0 => ("GlassJar$Men", "kinds", "[I", true)
  | 1 => ("GlassJar$Men", "birthdays", "[I", true)
  | 2 => ("GlassJar$Men", "pays", "[I", true)
  | _ => ("GlassJar$Men", "size", "I", false)
def tyX2 : Nat → FieldType := fun k => match k with
  | 0 => .array .int
  | 1 => .array .int
  | 2 => .array .int
  | _ => .int
theorem nmX2 : ∀ a, a < 4 → ∀ b, b < 4 → a ≠ b → (TX2 a).2.1 ≠ (TX2 b).2.1 := by decide +kernel
theorem tyX2_ok : ∀ k, k < 4 → parseFieldDescriptor (TX2 k).2.2.1 = some (tyX2 k) := by decide +kernel
abbrev cX2_init : ByteArray := prog_4_method_1_code
def yX2_init : MethodName := ⟨RX2, "<init>", "()V"⟩
abbrev cX2_enrol : ByteArray := prog_4_method_2_code
def yX2_enrol : MethodName := ⟨RX2, "enrol", "(III)I"⟩
abbrev cX2_copyMen : ByteArray := prog_4_method_3_code
def yX2_copyMen : MethodName := ⟨RX2, "copyMen", "(LGlassJar$Men;)V"⟩
abbrev cX2_kindAt : ByteArray := prog_4_method_4_code
def yX2_kindAt : MethodName := ⟨RX2, "kindAt", "(I)I"⟩
abbrev cX2_birthdayAt : ByteArray := prog_4_method_5_code
def yX2_birthdayAt : MethodName := ⟨RX2, "birthdayAt", "(I)I"⟩
abbrev cX2_payAt : ByteArray := prog_4_method_6_code
def yX2_payAt : MethodName := ⟨RX2, "payAt", "(I)I"⟩
def RX3 : String := "GlassJar$Ratio"
def TX3 : u_T := fun k => match k with
  | 0 => ("GlassJar$Ratio", "above", "J", false)
  | _ => ("GlassJar$Ratio", "below", "J", false)
def tyX3 : Nat → FieldType := fun k => match k with
  | 0 => .long
  | _ => .long
theorem nmX3 : ∀ a, a < 2 → ∀ b, b < 2 → a ≠ b → (TX3 a).2.1 ≠ (TX3 b).2.1 := by decide +kernel
theorem tyX3_ok : ∀ k, k < 2 → parseFieldDescriptor (TX3 k).2.2.1 = some (tyX3 k) := by decide +kernel
abbrev cX3_init : ByteArray := prog_5_method_1_code
def yX3_init : MethodName := ⟨RX3, "<init>", "()V"⟩
abbrev cX3_become : ByteArray := prog_5_method_2_code
def yX3_become : MethodName := ⟨RX3, "become", "(JJ)V"⟩
abbrev cX3_partAt : ByteArray := prog_5_method_3_code
def yX3_partAt : MethodName := ⟨RX3, "partAt", "(I)J"⟩
abbrev cX3_isWithin : ByteArray := prog_5_method_4_code
def yX3_isWithin : MethodName := ⟨RX3, "isWithin", "(J)Z"⟩
abbrev cX3_commonDivisor : ByteArray := prog_5_method_5_code
def yX3_commonDivisor : MethodName := ⟨RX3, "commonDivisor", "(JJ)J"⟩
def RX4 : String := "GlassJar$Sides"
def TX4 : u_T := fun k => match k with
  | 0 => ("GlassJar$Sides", "calledSum", "J", false)
  | 1 => ("GlassJar$Sides", "otherSum", "J", false)
  | 2 => ("GlassJar$Sides", "calledMen", "I", false)
  | _ => ("GlassJar$Sides", "otherMen", "I", false)
def tyX4 : Nat → FieldType := fun k => match k with
  | 0 => .long
  | 1 => .long
  | 2 => .int
  | _ => .int
theorem nmX4 : ∀ a, a < 4 → ∀ b, b < 4 → a ≠ b → (TX4 a).2.1 ≠ (TX4 b).2.1 := by decide +kernel
theorem tyX4_ok : ∀ k, k < 4 → parseFieldDescriptor (TX4 k).2.2.1 = some (tyX4 k) := by decide +kernel
abbrev cX4_init : ByteArray := prog_6_method_1_code
def yX4_init : MethodName := ⟨RX4, "<init>", "()V"⟩
abbrev cX4_clear : ByteArray := prog_6_method_2_code
def yX4_clear : MethodName := ⟨RX4, "clear", "()V"⟩
abbrev cX4_enter : ByteArray := prog_6_method_3_code
def yX4_enter : MethodName := ⟨RX4, "enter", "(ZJ)V"⟩
abbrev cX4_findGap : ByteArray := prog_6_method_4_code
def yX4_findGap : MethodName := ⟨RX4, "findGap", "(LGlassJar$Ratio;)Z"⟩
def RX5 : String := "GlassJar$Tape"
def TX5 : u_T := fun k => match k with
  | 0 => ("GlassJar$Tape", "bytes", "[I", true)
  | 1 => ("GlassJar$Tape", "length", "I", false)
  | 2 => ("GlassJar$Tape", "kind", "I", false)
  | 3 => ("GlassJar$Tape", "birthday", "I", false)
  | _ => ("GlassJar$Tape", "pay", "I", false)
def tyX5 : Nat → FieldType := fun k => match k with
  | 0 => .array .int
  | 1 => .int
  | 2 => .int
  | 3 => .int
  | _ => .int
theorem nmX5 : ∀ a, a < 5 → ∀ b, b < 5 → a ≠ b → (TX5 a).2.1 ≠ (TX5 b).2.1 := by decide +kernel
theorem tyX5_ok : ∀ k, k < 5 → parseFieldDescriptor (TX5 k).2.2.1 = some (tyX5 k) := by decide +kernel
abbrev cX5_init : ByteArray := prog_7_method_1_code
def yX5_init : MethodName := ⟨RX5, "<init>", "()V"⟩
abbrev cX5_hasRoomFor : ByteArray := prog_7_method_2_code
def yX5_hasRoomFor : MethodName := ⟨RX5, "hasRoomFor", "(I)Z"⟩
abbrev cX5_empty : ByteArray := prog_7_method_3_code
def yX5_empty : MethodName := ⟨RX5, "empty", "()V"⟩
abbrev cX5_append : ByteArray := prog_7_method_4_code
def yX5_append : MethodName := ⟨RX5, "append", "(IJ)V"⟩
abbrev cX5_read : ByteArray := prog_7_method_5_code
def yX5_read : MethodName := ⟨RX5, "read", "()I"⟩
abbrev cX5_byteAt : ByteArray := prog_7_method_6_code
def yX5_byteAt : MethodName := ⟨RX5, "byteAt", "(I)I"⟩
abbrev cX5_isDigit : ByteArray := prog_7_method_7_code
def yX5_isDigit : MethodName := ⟨RX5, "isDigit", "(I)Z"⟩
abbrev cX5_endOfDigits : ByteArray := prog_7_method_8_code
def yX5_endOfDigits : MethodName := ⟨RX5, "endOfDigits", "(II)I"⟩
abbrev cX5_valueOf : ByteArray := prog_7_method_9_code
def yX5_valueOf : MethodName := ⟨RX5, "valueOf", "(II)I"⟩
abbrev cX5_kindOfLetter : ByteArray := prog_7_method_10_code
def yX5_kindOfLetter : MethodName := ⟨RX5, "kindOfLetter", "(I)I"⟩
def RX6 : String := "GlassJar"
def TX6 : u_T := fun k => match k with
  | 0 => ("GlassJar", "tape", "LGlassJar$Tape;", true)
  | 1 => ("GlassJar", "now", "LGlassJar$Lottery;", true)
  | 2 => ("GlassJar", "then", "LGlassJar$Lottery;", true)
  | 3 => ("GlassJar", "imageTaken", "Z", false)
  | 4 => ("GlassJar", "refusals", "[I", true)
  | _ => ("GlassJar", "ratio", "LGlassJar$Ratio;", true)
def tyX6 : Nat → FieldType := fun k => match k with
  | 0 => .object "GlassJar$Tape"
  | 1 => .object "GlassJar$Lottery"
  | 2 => .object "GlassJar$Lottery"
  | 3 => .boolean
  | 4 => .array .int
  | _ => .object "GlassJar$Ratio"
theorem nmX6 : ∀ a, a < 6 → ∀ b, b < 6 → a ≠ b → (TX6 a).2.1 ≠ (TX6 b).2.1 := by decide +kernel
theorem tyX6_ok : ∀ k, k < 6 → parseFieldDescriptor (TX6 k).2.2.1 = some (tyX6 k) := by decide +kernel
abbrev cX6_init : ByteArray := prog_1_method_1_code
def yX6_init : MethodName := ⟨RX6, "<init>", "()V"⟩
abbrev cX6_feed : ByteArray := prog_1_method_2_code
def yX6_feed : MethodName := ⟨RX6, "feed", "(IJ)I"⟩
abbrev cX6_man : ByteArray := prog_1_method_3_code
def yX6_man : MethodName := ⟨RX6, "man", "()I"⟩
abbrev cX6_jar : ByteArray := prog_1_method_4_code
def yX6_jar : MethodName := ⟨RX6, "jar", "(IIIII)I"⟩
abbrev cX6_pour : ByteArray := prog_1_method_5_code
def yX6_pour : MethodName := ⟨RX6, "pour", "(IZ)I"⟩
abbrev cX6_number : ByteArray := prog_1_method_6_code
def yX6_number : MethodName := ⟨RX6, "number", "(II)I"⟩
abbrev cX6_dayOf : ByteArray := prog_1_method_7_code
def yX6_dayOf : MethodName := ⟨RX6, "dayOf", "(II)I"⟩
abbrev cX6_mean : ByteArray := prog_1_method_8_code
def yX6_mean : MethodName := ⟨RX6, "mean", "(III)J"⟩
abbrev cX6_lean : ByteArray := prog_1_method_9_code
def yX6_lean : MethodName := ⟨RX6, "lean", "(I)J"⟩
abbrev cX6_worst : ByteArray := prog_1_method_10_code
def yX6_worst : MethodName := ⟨RX6, "worst", "(I)I"⟩
abbrev cX6_turned : ByteArray := prog_1_method_11_code
def yX6_turned : MethodName := ⟨RX6, "turned", "(I)I"⟩
abbrev cX6_manOf : ByteArray := prog_1_method_12_code
def yX6_manOf : MethodName := ⟨RX6, "manOf", "(II)I"⟩
abbrev cX6_cut : ByteArray := prog_1_method_13_code
def yX6_cut : MethodName := ⟨RX6, "cut", "(I)I"⟩
abbrev cX6_law : ByteArray := prog_1_method_14_code
def yX6_law : MethodName := ⟨RX6, "law", "(II)I"⟩
abbrev cX6_called : ByteArray := prog_1_method_15_code
def yX6_called : MethodName := ⟨RX6, "called", "(II)I"⟩
abbrev cX6_served : ByteArray := prog_1_method_16_code
def yX6_served : MethodName := ⟨RX6, "served", "(II)I"⟩
abbrev cX6_wage : ByteArray := prog_1_method_17_code
def yX6_wage : MethodName := ⟨RX6, "wage", "(III)J"⟩
abbrev cX6_does : ByteArray := prog_1_method_18_code
def yX6_does : MethodName := ⟨RX6, "does", "(III)J"⟩
abbrev cX6_share : ByteArray := prog_1_method_19_code
def yX6_share : MethodName := ⟨RX6, "share", "(II)J"⟩
abbrev cX6_serving : ByteArray := prog_1_method_20_code
def yX6_serving : MethodName := ⟨RX6, "serving", "(III)J"⟩
abbrev cX6_truly : ByteArray := prog_1_method_21_code
def yX6_truly : MethodName := ⟨RX6, "truly", "(III)J"⟩
abbrev cX6_faded : ByteArray := prog_1_method_22_code
def yX6_faded : MethodName := ⟨RX6, "faded", "(II)I"⟩
abbrev cX6_group : ByteArray := prog_1_method_23_code
def yX6_group : MethodName := ⟨RX6, "group", "(IIII)J"⟩
abbrev cX6_least : ByteArray := prog_1_method_24_code
def yX6_least : MethodName := ⟨RX6, "least", "(I)I"⟩
abbrev cX6_shown : ByteArray := prog_1_method_25_code
def yX6_shown : MethodName := ⟨RX6, "shown", "()I"⟩
abbrev cX6_moved : ByteArray := prog_1_method_26_code
def yX6_moved : MethodName := ⟨RX6, "moved", "()I"⟩
abbrev cX6_cuts : ByteArray := prog_1_method_27_code
def yX6_cuts : MethodName := ⟨RX6, "cuts", "(II)I"⟩
abbrev cX6_image : ByteArray := prog_1_method_28_code
def yX6_image : MethodName := ⟨RX6, "image", "()I"⟩
abbrev cX6_on : ByteArray := prog_1_method_29_code
def yX6_on : MethodName := ⟨RX6, "on", "()I"⟩
abbrev cX6_count : ByteArray := prog_1_method_30_code
def yX6_count : MethodName := ⟨RX6, "count", "(I)I"⟩
abbrev cX6_isMan : ByteArray := prog_1_method_31_code
def yX6_isMan : MethodName := ⟨RX6, "isMan", "(I)Z"⟩
abbrev cX6_isJar : ByteArray := prog_1_method_32_code
def yX6_isJar : MethodName := ⟨RX6, "isJar", "(I)Z"⟩
abbrev cX6_isMonth : ByteArray := prog_1_method_33_code
def yX6_isMonth : MethodName := ⟨RX6, "isMonth", "(I)Z"⟩
abbrev cX6_isPart : ByteArray := prog_1_method_34_code
def yX6_isPart : MethodName := ⟨RX6, "isPart", "(I)Z"⟩
abbrev cX6_firstThatFits : ByteArray := prog_1_method_35_code
def yX6_firstThatFits : MethodName := ⟨RX6, "firstThatFits", "(ZZZZ)I"⟩
abbrev cX6_refuse : ByteArray := prog_1_method_36_code
def yX6_refuse : MethodName := ⟨RX6, "refuse", "(I)I"⟩
abbrev cX6_refuseLong : ByteArray := prog_1_method_37_code
def yX6_refuseLong : MethodName := ⟨RX6, "refuseLong", "(I)J"⟩
abbrev cX6_partOrNone : ByteArray := prog_1_method_38_code
def yX6_partOrNone : MethodName := ⟨RX6, "partOrNone", "(ZI)J"⟩
abbrev cX6_at : ByteArray := prog_1_method_39_code
def yX6_at : MethodName := ⟨RX6, "at", "([II)I"⟩
abbrev cX6_put : ByteArray := prog_1_method_40_code
def yX6_put : MethodName := ⟨RX6, "put", "([III)V"⟩
abbrev cX6_copyRow : ByteArray := prog_1_method_41_code
def yX6_copyRow : MethodName := ⟨RX6, "copyRow", "([I[I)V"⟩
abbrev cX6_monthLength : ByteArray := prog_1_method_42_code
def yX6_monthLength : MethodName := ⟨RX6, "monthLength", "(I)I"⟩
abbrev cX6_monthOf : ByteArray := prog_1_method_43_code
def yX6_monthOf : MethodName := ⟨RX6, "monthOf", "(I)I"⟩
def RX7 : String := "GlassJarModel"
def TX7 : u_T := fun k => match k with
  | 0 => ("GlassJarModel", "refused", "[I", true)
  | 1 => ("GlassJarModel", "seed", "[I", true)
  | 2 => ("GlassJarModel", "shakes", "[I", true)
  | 3 => ("GlassJarModel", "spread", "[I", true)
  | 4 => ("GlassJarModel", "depth", "[I", true)
  | 5 => ("GlassJarModel", "poured", "[I", true)
  | 6 => ("GlassJarModel", "numbers", "[I", true)
  | 7 => ("GlassJarModel", "row", "[I", true)
  | 8 => ("GlassJarModel", "days", "[I", true)
  | 9 => ("GlassJarModel", "isDrawn", "[Z", true)
  | 10 => ("GlassJarModel", "lots", "I", false)
  | 11 => ("GlassJarModel", "up", "J", false)
  | 12 => ("GlassJarModel", "down", "J", false)
  | 13 => ("GlassJarModel", "tape", "[I", true)
  | 14 => ("GlassJarModel", "kind", "[I", true)
  | 15 => ("GlassJarModel", "born", "[I", true)
  | 16 => ("GlassJarModel", "pay", "[I", true)
  | 17 => ("GlassJarModel", "law", "[I", true)
  | 18 => ("GlassJarModel", "top", "[I", true)
  | 19 => ("GlassJarModel", "taped", "I", false)
  | 20 => ("GlassJarModel", "at", "I", false)
  | 21 => ("GlassJarModel", "men", "I", false)
  | 22 => ("GlassJarModel", "cut", "I", false)
  | 23 => ("GlassJarModel", "least", "I", false)
  | 24 => ("GlassJarModel", "kept", "[I", true)
  | 25 => ("GlassJarModel", "hasImage", "Z", false)
  | 26 => ("GlassJarModel", "isKeeping", "Z", false)
  | _ => ("GlassJarModel", "cursor", "I", false)
def tyX7 : Nat → FieldType := fun k => match k with
  | 0 => .array .int
  | 1 => .array .int
  | 2 => .array .int
  | 3 => .array .int
  | 4 => .array .int
  | 5 => .array .int
  | 6 => .array .int
  | 7 => .array .int
  | 8 => .array .int
  | 9 => .array .boolean
  | 10 => .int
  | 11 => .long
  | 12 => .long
  | 13 => .array .int
  | 14 => .array .int
  | 15 => .array .int
  | 16 => .array .int
  | 17 => .array .int
  | 18 => .array .int
  | 19 => .int
  | 20 => .int
  | 21 => .int
  | 22 => .int
  | 23 => .int
  | 24 => .array .int
  | 25 => .boolean
  | 26 => .boolean
  | _ => .int
theorem nmX7 : ∀ a, a < 28 → ∀ b, b < 28 → a ≠ b → (TX7 a).2.1 ≠ (TX7 b).2.1 := by decide +kernel
theorem tyX7_ok : ∀ k, k < 28 → parseFieldDescriptor (TX7 k).2.2.1 = some (tyX7 k) := by decide +kernel
abbrev cX7_init : ByteArray := prog_9_method_1_code
def yX7_init : MethodName := ⟨RX7, "<init>", "()V"⟩
abbrev cX7_no : ByteArray := prog_9_method_2_code
def yX7_no : MethodName := ⟨RX7, "no", "(I)I"⟩
abbrev cX7_noLong : ByteArray := prog_9_method_3_code
def yX7_noLong : MethodName := ⟨RX7, "noLong", "(I)J"⟩
abbrev cX7_isIn : ByteArray := prog_9_method_4_code
def yX7_isIn : MethodName := ⟨RX7, "isIn", "(III)Z"⟩
abbrev cX7_out : ByteArray := prog_9_method_5_code
def yX7_out : MethodName := ⟨RX7, "out", "(III)I"⟩
abbrev cX7_isJar : ByteArray := prog_9_method_6_code
def yX7_isJar : MethodName := ⟨RX7, "isJar", "(I)Z"⟩
abbrev cX7_lot : ByteArray := prog_9_method_7_code
def yX7_lot : MethodName := ⟨RX7, "lot", "(I)I"⟩
abbrev cX7_jar : ByteArray := prog_9_method_8_code
def yX7_jar : MethodName := ⟨RX7, "jar", "(IIIII)I"⟩
abbrev cX7_pour : ByteArray := prog_9_method_9_code
def yX7_pour : MethodName := ⟨RX7, "pour", "(IZ)I"⟩
abbrev cX7_changes : ByteArray := prog_9_method_10_code
def yX7_changes : MethodName := ⟨RX7, "changes", "(II)V"⟩
abbrev cX7_draws : ByteArray := prog_9_method_11_code
def yX7_draws : MethodName := ⟨RX7, "draws", "(I)V"⟩
abbrev cX7_numberOf : ByteArray := prog_9_method_12_code
def yX7_numberOf : MethodName := ⟨RX7, "numberOf", "(II)I"⟩
abbrev cX7_number : ByteArray := prog_9_method_13_code
def yX7_number : MethodName := ⟨RX7, "number", "(II)I"⟩
abbrev cX7_dayOf : ByteArray := prog_9_method_14_code
def yX7_dayOf : MethodName := ⟨RX7, "dayOf", "(II)I"⟩
abbrev cX7_firstOf : ByteArray := prog_9_method_15_code
def yX7_firstOf : MethodName := ⟨RX7, "firstOf", "(I)I"⟩
abbrev cX7_monthOf : ByteArray := prog_9_method_16_code
def yX7_monthOf : MethodName := ⟨RX7, "monthOf", "(I)I"⟩
abbrev cX7_sumOf : ByteArray := prog_9_method_17_code
def yX7_sumOf : MethodName := ⟨RX7, "sumOf", "(II)J"⟩
abbrev cX7_lessens : ByteArray := prog_9_method_18_code
def yX7_lessens : MethodName := ⟨RX7, "lessens", "(JJ)V"⟩
abbrev cX7_told : ByteArray := prog_9_method_19_code
def yX7_told : MethodName := ⟨RX7, "told", "(I)J"⟩
abbrev cX7_isPart : ByteArray := prog_9_method_20_code
def yX7_isPart : MethodName := ⟨RX7, "isPart", "(I)Z"⟩
abbrev cX7_isMonth : ByteArray := prog_9_method_21_code
def yX7_isMonth : MethodName := ⟨RX7, "isMonth", "(I)Z"⟩
abbrev cX7_mean : ByteArray := prog_9_method_22_code
def yX7_mean : MethodName := ⟨RX7, "mean", "(III)J"⟩
abbrev cX7_lean : ByteArray := prog_9_method_23_code
def yX7_lean : MethodName := ⟨RX7, "lean", "(I)J"⟩
abbrev cX7_offOf : ByteArray := prog_9_method_24_code
def yX7_offOf : MethodName := ⟨RX7, "offOf", "(II)J"⟩
abbrev cX7_worst : ByteArray := prog_9_method_25_code
def yX7_worst : MethodName := ⟨RX7, "worst", "(I)I"⟩
abbrev cX7_turned : ByteArray := prog_9_method_26_code
def yX7_turned : MethodName := ⟨RX7, "turned", "(I)I"⟩
abbrev cX7_feed : ByteArray := prog_9_method_27_code
def yX7_feed : MethodName := ⟨RX7, "feed", "(IJ)I"⟩
abbrev cX7_sign : ByteArray := prog_9_method_28_code
def yX7_sign : MethodName := ⟨RX7, "sign", "()I"⟩
abbrev cX7_number_ : ByteArray := prog_9_method_29_code
def yX7_number_ : MethodName := ⟨RX7, "number", "(I)I"⟩
abbrev cX7_reads : ByteArray := prog_9_method_30_code
def yX7_reads : MethodName := ⟨RX7, "reads", "()Z"⟩
abbrev cX7_man : ByteArray := prog_9_method_31_code
def yX7_man : MethodName := ⟨RX7, "man", "()I"⟩
abbrev cX7_isMan : ByteArray := prog_9_method_32_code
def yX7_isMan : MethodName := ⟨RX7, "isMan", "(I)Z"⟩
abbrev cX7_manOf : ByteArray := prog_9_method_33_code
def yX7_manOf : MethodName := ⟨RX7, "manOf", "(II)I"⟩
abbrev cX7_cut : ByteArray := prog_9_method_34_code
def yX7_cut : MethodName := ⟨RX7, "cut", "(I)I"⟩
abbrev cX7_law : ByteArray := prog_9_method_35_code
def yX7_law : MethodName := ⟨RX7, "law", "(II)I"⟩
abbrev cX7_isCalled : ByteArray := prog_9_method_36_code
def yX7_isCalled : MethodName := ⟨RX7, "isCalled", "(II)Z"⟩
abbrev cX7_servedAs : ByteArray := prog_9_method_37_code
def yX7_servedAs : MethodName := ⟨RX7, "servedAs", "(II)I"⟩
abbrev cX7_hasServed : ByteArray := prog_9_method_38_code
def yX7_hasServed : MethodName := ⟨RX7, "hasServed", "(II)Z"⟩
abbrev cX7_called : ByteArray := prog_9_method_39_code
def yX7_called : MethodName := ⟨RX7, "called", "(II)I"⟩
abbrev cX7_served : ByteArray := prog_9_method_40_code
def yX7_served : MethodName := ⟨RX7, "served", "(II)I"⟩
abbrev cX7_lossIn : ByteArray := prog_9_method_41_code
def yX7_lossIn : MethodName := ⟨RX7, "lossIn", "(I)I"⟩
abbrev cX7_wageOf : ByteArray := prog_9_method_42_code
def yX7_wageOf : MethodName := ⟨RX7, "wageOf", "(III)J"⟩
abbrev cX7_notYear : ByteArray := prog_9_method_43_code
def yX7_notYear : MethodName := ⟨RX7, "notYear", "(I)I"⟩
abbrev cX7_wage : ByteArray := prog_9_method_44_code
def yX7_wage : MethodName := ⟨RX7, "wage", "(III)J"⟩
abbrev cX7_differs : ByteArray := prog_9_method_45_code
def yX7_differs : MethodName := ⟨RX7, "differs", "(II)Z"⟩
abbrev cX7_notAsked : ByteArray := prog_9_method_46_code
def yX7_notAsked : MethodName := ⟨RX7, "notAsked", "(II)I"⟩
abbrev cX7_does : ByteArray := prog_9_method_47_code
def yX7_does : MethodName := ⟨RX7, "does", "(III)J"⟩
abbrev cX7_share : ByteArray := prog_9_method_48_code
def yX7_share : MethodName := ⟨RX7, "share", "(II)J"⟩
abbrev cX7_serving : ByteArray := prog_9_method_49_code
def yX7_serving : MethodName := ⟨RX7, "serving", "(III)J"⟩
abbrev cX7_truly : ByteArray := prog_9_method_50_code
def yX7_truly : MethodName := ⟨RX7, "truly", "(III)J"⟩
abbrev cX7_faded : ByteArray := prog_9_method_51_code
def yX7_faded : MethodName := ⟨RX7, "faded", "(II)I"⟩
abbrev cX7_bornIn : ByteArray := prog_9_method_52_code
def yX7_bornIn : MethodName := ⟨RX7, "bornIn", "(I)I"⟩
abbrev cX7_group : ByteArray := prog_9_method_53_code
def yX7_group : MethodName := ⟨RX7, "group", "(IIII)J"⟩
abbrev cX7_least : ByteArray := prog_9_method_54_code
def yX7_least : MethodName := ⟨RX7, "least", "(I)I"⟩
abbrev cX7_shown : ByteArray := prog_9_method_55_code
def yX7_shown : MethodName := ⟨RX7, "shown", "()I"⟩
abbrev cX7_moved : ByteArray := prog_9_method_56_code
def yX7_moved : MethodName := ⟨RX7, "moved", "()I"⟩
abbrev cX7_cuts : ByteArray := prog_9_method_57_code
def yX7_cuts : MethodName := ⟨RX7, "cuts", "(II)I"⟩
abbrev cX7_passes : ByteArray := prog_9_method_58_code
def yX7_passes : MethodName := ⟨RX7, "passes", "([I)V"⟩
abbrev cX7_passOne : ByteArray := prog_9_method_59_code
def yX7_passOne : MethodName := ⟨RX7, "passOne", "(I)I"⟩
abbrev cX7_passesAll : ByteArray := prog_9_method_60_code
def yX7_passesAll : MethodName := ⟨RX7, "passesAll", "()V"⟩
abbrev cX7_image : ByteArray := prog_9_method_61_code
def yX7_image : MethodName := ⟨RX7, "image", "()I"⟩
abbrev cX7_on : ByteArray := prog_9_method_62_code
def yX7_on : MethodName := ⟨RX7, "on", "()I"⟩
abbrev cX7_count : ByteArray := prog_9_method_63_code
def yX7_count : MethodName := ⟨RX7, "count", "(I)I"⟩
def RJx8e188 : String := "java/lang/Cloneable"
def RJ13 : String := "java/lang/Long"
abbrev cJ13_bitCount_95d88 : ByteArray := prog_11_method_50_code
def yJ13_bitCount_95d88 : MethodName := ⟨RJ13, "bitCount", "(J)I"⟩
def RJ9 : String := "java/lang/Math"
abbrev cJ9_abs_067f4 : ByteArray := prog_12_method_61_code
def yJ9_abs_067f4 : MethodName := ⟨RJ9, "abs", "(J)J"⟩
abbrev cJ9_max_7cf53 : ByteArray := prog_12_method_65_code
def yJ9_max_7cf53 : MethodName := ⟨RJ9, "max", "(II)I"⟩
abbrev cJ9_min_7cf53 : ByteArray := prog_12_method_69_code
def yJ9_min_7cf53 : MethodName := ⟨RJ9, "min", "(II)I"⟩
def RJ10 : String := "java/lang/System"
def RJ7 : String := "java/util/Arrays"
abbrev cJ7_fill_d0a16 : ByteArray := prog_14_method_101_code
def yJ7_fill_d0a16 : MethodName := ⟨RJ7, "fill", "([JJ)V"⟩
def RL : String := "GlassJarLaw"
abbrev cL_law : ByteArray := code
def yL_law : MethodName := ⟨RL, "law", "([I)Z"⟩
abbrev vwCl : List vw_C := [(RX0, TX0, 10), (RX1, TX1, 8), (RX2, TX2, 4), (RX3, TX3, 2), (RX4, TX4, 4), (RX5, TX5, 5), (RX6, TX6, 6), (RX7, TX7, 28)]
end
section
/-- the words that every method may use -/
def gtbl : List Cond := lw_tbl.filter goodWord
theorem gm {w : Cond} (h : w ∈ tables_1) (hg : goodWord w = true) : w ∈ gtbl := List.mem_filter.mpr ⟨List.mem_append_right _ h, hg⟩
theorem tm1 (i : Nat) {w : Cond} (h : tables_1_1[i]? = some w) : w ∈ tables_1 := List.mem_append_left _ (List.mem_of_getElem? h)
theorem tm2 (i : Nat) {w : Cond} (h : tables_1_2[i]? = some w) : w ∈ tables_1 := List.mem_append_right _ (List.mem_append_left _ (List.mem_of_getElem? h))
theorem tm3 (i : Nat) {w : Cond} (h : tables_1_3[i]? = some w) : w ∈ tables_1 := List.mem_append_right _ (List.mem_append_right _ (List.mem_append_left _ (List.mem_of_getElem? h)))
theorem tm4 (i : Nat) {w : Cond} (h : tables_1_4[i]? = some w) : w ∈ tables_1 := List.mem_append_right _ (List.mem_append_right _ (List.mem_append_right _ (List.mem_append_left _ (List.mem_of_getElem? h))))
theorem tm5 (i : Nat) {w : Cond} (h : tables_1_5[i]? = some w) : w ∈ tables_1 := List.mem_append_right _ (List.mem_append_right _ (List.mem_append_right _ (List.mem_append_right _ (List.mem_of_getElem? h))))
def isNestW (w : Cond) : Bool := match w with
  | .fieldLinkNest .. => true
  | .methodLinkNest .. => true
  | _ => false
/-- the words of nest mates -/
def nestW : List Cond := tables_1.filter isNestW
theorem nm {w : Cond} (h : w ∈ tables_1) (hg : isNestW w = true) : w ∈ nestW := List.mem_filter.mpr ⟨h, hg⟩
theorem wk_1_0 : Cond.initialized RL ∈ gtbl := gm (tm1 0 rfl) rfl
theorem wk_1_1 : Cond.initialized RX6 ∈ gtbl := gm (tm1 1 rfl) rfl
theorem wk_1_2 : Cond.initialized RX5 ∈ gtbl := gm (tm1 2 rfl) rfl
theorem wk_1_3 : Cond.initialized RX1 ∈ gtbl := gm (tm1 3 rfl) rfl
theorem wk_1_4 : Cond.initialized RX0 ∈ gtbl := gm (tm1 4 rfl) rfl
theorem wk_1_5 : Cond.initialized RJ9 ∈ gtbl := gm (tm1 5 rfl) rfl
theorem wk_1_6 : Cond.initialized RJ10 ∈ gtbl := gm (tm1 6 rfl) rfl
theorem wk_1_7 : Cond.initialized RX2 ∈ gtbl := gm (tm1 7 rfl) rfl
theorem wk_1_8 : Cond.initialized RX4 ∈ gtbl := gm (tm1 8 rfl) rfl
theorem wk_1_9 : Cond.initialized RX3 ∈ gtbl := gm (tm1 9 rfl) rfl
theorem wk_1_10 : Cond.initialized RX7 ∈ gtbl := gm (tm1 10 rfl) rfl
theorem wk_1_11 : Cond.initialized RJ7 ∈ gtbl := gm (tm1 11 rfl) rfl
theorem wk_1_12 : Cond.initialized RJ13 ∈ gtbl := gm (tm1 12 rfl) rfl
theorem wk_1_13 : Cond.classLink RL 7 RX6 ∈ gtbl := gm (tm1 13 rfl) rfl
theorem wk_1_14 : Cond.instantiable RX6 6 ∈ gtbl := gm (tm1 14 rfl) rfl
theorem wk_1_15 : Cond.methodLink RL 9 yX6_init ∈ gtbl := gm (tm1 15 rfl) rfl
theorem wk_1_16 : Cond.instanceMethod yX6_init ∈ gtbl := gm (tm1 16 rfl) rfl
theorem wk_1_17 : Cond.code yX6_init cX6_init 1 none ∈ gtbl := gm (tm1 17 rfl) rfl
theorem wk_1_18 : Cond.methodLink RX6 1 objectInit ∈ gtbl := gm (tm1 18 rfl) rfl
theorem wk_1_19 : Cond.instanceMethod objectInit ∈ gtbl := gm (tm1 19 rfl) rfl
theorem wk_1_20 : Cond.code objectInit ⟨#[0xb1]⟩ 1 none ∈ gtbl := gm (tm1 20 rfl) rfl
theorem wk_1_21 : Cond.classLink RX6 7 RX5 ∈ gtbl := gm (tm1 21 rfl) rfl
theorem wk_1_22 : Cond.instantiable RX5 5 ∈ gtbl := gm (tm1 22 rfl) rfl
theorem wk_1_23 : Cond.methodLinkNest RX6 9 yX5_init RX6 ∈ nestW := nm (tm1 23 rfl) rfl
theorem wk_1_24 : Cond.instanceMethod yX5_init ∈ gtbl := gm (tm1 24 rfl) rfl
theorem wk_1_25 : Cond.code yX5_init cX5_init 1 none ∈ gtbl := gm (tm1 25 rfl) rfl
theorem wk_1_26 : Cond.methodLink RX5 3 objectInit ∈ gtbl := gm (tm1 26 rfl) rfl
theorem wk_1_27 : Cond.fieldLink RX5 9 "GlassJar$Tape" "bytes" "[I" ∈ gtbl := gm (tm1 27 rfl) rfl
theorem wk_1_28 : Cond.fieldLink RX5 15 "GlassJar$Tape" "length" "I" ∈ gtbl := gm (tm1 28 rfl) rfl
theorem wk_1_29 : Cond.fieldLinkNest RX6 57 "GlassJar$Tape" "length" "I" RX6 ∈ nestW := nm (tm1 29 rfl) rfl
theorem wk_1_30 : Cond.fieldLink RX5 19 "GlassJar$Tape" "kind" "I" ∈ gtbl := gm (tm1 30 rfl) rfl
theorem wk_1_31 : Cond.fieldLinkNest RX6 77 "GlassJar$Tape" "kind" "I" RX6 ∈ nestW := nm (tm1 31 rfl) rfl
theorem wk_1_32 : Cond.fieldLink RX5 22 "GlassJar$Tape" "birthday" "I" ∈ gtbl := gm (tm1 32 rfl) rfl
theorem wk_1_33 : Cond.fieldLinkNest RX6 80 "GlassJar$Tape" "birthday" "I" RX6 ∈ nestW := nm (tm1 33 rfl) rfl
theorem wk_1_34 : Cond.fieldLink RX5 25 "GlassJar$Tape" "pay" "I" ∈ gtbl := gm (tm1 34 rfl) rfl
theorem wk_1_35 : Cond.fieldLinkNest RX6 83 "GlassJar$Tape" "pay" "I" RX6 ∈ nestW := nm (tm1 35 rfl) rfl
theorem wk_1_36 : Cond.laysFinal RX5 "GlassJar$Tape" "bytes" "[I" ∈ gtbl := gm (tm1 36 rfl) rfl
theorem wk_1_38 : Cond.lays RX5 "GlassJar$Tape" "length" "I" ∈ gtbl := gm (tm1 38 rfl) rfl
theorem wk_1_40 : Cond.lays RX5 "GlassJar$Tape" "kind" "I" ∈ gtbl := gm (tm1 40 rfl) rfl
theorem wk_1_42 : Cond.lays RX5 "GlassJar$Tape" "birthday" "I" ∈ gtbl := gm (tm1 42 rfl) rfl
theorem wk_1_44 : Cond.lays RX5 "GlassJar$Tape" "pay" "I" ∈ gtbl := gm (tm1 44 rfl) rfl
theorem wk_1_47 : Cond.arrayClass .int ∈ gtbl := gm (tm1 47 rfl) rfl
theorem wk_1_48 : Cond.classLink RX6 16 RX1 ∈ gtbl := gm (tm1 48 rfl) rfl
theorem wk_1_49 : Cond.instantiable RX1 8 ∈ gtbl := gm (tm1 49 rfl) rfl
theorem wk_1_50 : Cond.methodLinkNest RX6 18 yX1_init RX6 ∈ nestW := nm (tm1 50 rfl) rfl
theorem wk_1_51 : Cond.instanceMethod yX1_init ∈ gtbl := gm (tm1 51 rfl) rfl
theorem wk_1_52 : Cond.code yX1_init cX1_init 1 none ∈ gtbl := gm (tm1 52 rfl) rfl
theorem wk_1_53 : Cond.methodLink RX1 3 objectInit ∈ gtbl := gm (tm1 53 rfl) rfl
theorem wk_1_54 : Cond.classLink RX1 9 RX0 ∈ gtbl := gm (tm1 54 rfl) rfl
theorem wk_1_55 : Cond.instantiable RX0 10 ∈ gtbl := gm (tm1 55 rfl) rfl
theorem wk_1_56 : Cond.methodLinkNest RX1 11 yX0_init RX6 ∈ nestW := nm (tm1 56 rfl) rfl
theorem wk_1_57 : Cond.instanceMethod yX0_init ∈ gtbl := gm (tm1 57 rfl) rfl
theorem wk_1_58 : Cond.code yX0_init cX0_init 1 none ∈ gtbl := gm (tm1 58 rfl) rfl
theorem wk_1_59 : Cond.methodLink RX0 3 objectInit ∈ gtbl := gm (tm1 59 rfl) rfl
theorem wk_1_60 : Cond.methodLink RX0 45 yX0_draw ∈ gtbl := gm (tm1 60 rfl) rfl
theorem wk_1_62 : Cond.instanceMethod yX0_draw ∈ gtbl := gm (tm1 62 rfl) rfl
theorem wk_1_63 : Cond.code yX0_draw cX0_draw 1 none ∈ gtbl := gm (tm1 63 rfl) rfl
theorem wk_1_64 : Cond.methodLink RX0 52 yX0_layDays ∈ gtbl := gm (tm1 64 rfl) rfl
theorem wk_1_66 : Cond.instanceMethod yX0_layDays ∈ gtbl := gm (tm1 66 rfl) rfl
theorem wk_1_67 : Cond.code yX0_layDays cX0_layDays 2 none ∈ gtbl := gm (tm1 67 rfl) rfl
theorem wk_1_68 : Cond.methodLinkNest RX0 67 yX6_put RX6 ∈ nestW := nm (tm1 68 rfl) rfl
theorem wk_1_69 : Cond.static yX6_put ∈ gtbl := gm (tm1 69 rfl) rfl
theorem wk_1_70 : Cond.code yX6_put cX6_put 3 none ∈ gtbl := gm (tm1 70 rfl) rfl
theorem wk_1_71 : Cond.methodLink RX0 55 yX0_shakeRow ∈ gtbl := gm (tm1 71 rfl) rfl
theorem wk_1_73 : Cond.instanceMethod yX0_shakeRow ∈ gtbl := gm (tm1 73 rfl) rfl
theorem wk_1_74 : Cond.code yX0_shakeRow cX0_shakeRow 4 none ∈ gtbl := gm (tm1 74 rfl) rfl
theorem wk_1_75 : Cond.methodLink RX0 71 yX0_lot ∈ gtbl := gm (tm1 75 rfl) rfl
theorem wk_1_77 : Cond.instanceMethod yX0_lot ∈ gtbl := gm (tm1 77 rfl) rfl
theorem wk_1_78 : Cond.code yX0_lot cX0_lot 2 (some .int) ∈ gtbl := gm (tm1 78 rfl) rfl
theorem wk_1_79 : Cond.constant RX0 64 (1664525 : Int32) ∈ gtbl := gm (tm1 79 rfl) rfl
theorem wk_1_80 : Cond.constant RX0 65 (1013904223 : Int32) ∈ gtbl := gm (tm1 80 rfl) rfl
theorem wk_1_81 : Cond.constant RX0 66 (2147483647 : Int32) ∈ gtbl := gm (tm1 81 rfl) rfl
theorem wk_1_82 : Cond.methodLink RX0 75 yJ9_min_7cf53 ∈ gtbl := gm (tm1 82 rfl) rfl
theorem wk_1_83 : Cond.static yJ9_min_7cf53 ∈ gtbl := gm (tm1 83 rfl) rfl
theorem wk_1_84 : Cond.code yJ9_min_7cf53 cJ9_min_7cf53 2 (some .int) ∈ gtbl := gm (tm1 84 rfl) rfl
theorem wk_1_85 : Cond.methodLink RX0 81 yJ9_max_7cf53 ∈ gtbl := gm (tm1 85 rfl) rfl
theorem wk_1_86 : Cond.static yJ9_max_7cf53 ∈ gtbl := gm (tm1 86 rfl) rfl
theorem wk_1_87 : Cond.code yJ9_max_7cf53 cJ9_max_7cf53 2 (some .int) ∈ gtbl := gm (tm1 87 rfl) rfl
theorem wk_1_88 : Cond.methodLink RX0 84 yX0_swap ∈ gtbl := gm (tm1 88 rfl) rfl
theorem wk_1_90 : Cond.instanceMethod yX0_swap ∈ gtbl := gm (tm1 90 rfl) rfl
theorem wk_1_91 : Cond.code yX0_swap cX0_swap 4 none ∈ gtbl := gm (tm1 91 rfl) rfl
theorem wk_1_92 : Cond.methodLinkNest RX0 88 yX6_at RX6 ∈ nestW := nm (tm1 92 rfl) rfl
theorem wk_1_93 : Cond.static yX6_at ∈ gtbl := gm (tm1 93 rfl) rfl
theorem wk_1_94 : Cond.code yX6_at cX6_at 2 (some .int) ∈ gtbl := gm (tm1 94 rfl) rfl
theorem wk_1_95 : Cond.methodLink RX0 58 yX0_turnRow ∈ gtbl := gm (tm1 95 rfl) rfl
theorem wk_1_97 : Cond.instanceMethod yX0_turnRow ∈ gtbl := gm (tm1 97 rfl) rfl
theorem wk_1_98 : Cond.code yX0_turnRow cX0_turnRow 2 none ∈ gtbl := gm (tm1 98 rfl) rfl
theorem wk_1_99 : Cond.methodLink RX0 61 yX0_drawRow ∈ gtbl := gm (tm1 99 rfl) rfl
theorem wk_1_101 : Cond.instanceMethod yX0_drawRow ∈ gtbl := gm (tm1 101 rfl) rfl
theorem wk_1_102 : Cond.code yX0_drawRow cX0_drawRow 6 none ∈ gtbl := gm (tm1 102 rfl) rfl
theorem wk_1_103 : Cond.methodLink RX0 92 yX0_closeGap ∈ gtbl := gm (tm1 103 rfl) rfl
theorem wk_1_105 : Cond.instanceMethod yX0_closeGap ∈ gtbl := gm (tm1 105 rfl) rfl
theorem wk_1_106 : Cond.code yX0_closeGap cX0_closeGap 3 none ∈ gtbl := gm (tm1 106 rfl) rfl
theorem wk_1_107 : Cond.methodLink RX0 95 arraycopyName ∈ gtbl := gm (tm1 107 rfl) rfl
theorem wk_1_108 : Cond.static arraycopyName ∈ gtbl := gm (tm1 108 rfl) rfl
theorem wk_1_109 : Cond.native arraycopyName ∈ gtbl := gm (tm1 109 rfl) rfl
theorem wk_1_110 : Cond.fieldLink RX0 9 "GlassJar$Jar" "seed" "I" ∈ gtbl := gm (tm1 110 rfl) rfl
theorem wk_1_111 : Cond.fieldLink RX0 15 "GlassJar$Jar" "shakes" "I" ∈ gtbl := gm (tm1 111 rfl) rfl
theorem wk_1_112 : Cond.fieldLink RX0 18 "GlassJar$Jar" "spread" "I" ∈ gtbl := gm (tm1 112 rfl) rfl
theorem wk_1_113 : Cond.fieldLink RX0 21 "GlassJar$Jar" "depth" "I" ∈ gtbl := gm (tm1 113 rfl) rfl
theorem wk_1_114 : Cond.fieldLink RX0 24 "GlassJar$Jar" "poured" "Z" ∈ gtbl := gm (tm1 114 rfl) rfl
theorem wk_1_115 : Cond.fieldLink RX0 28 "GlassJar$Jar" "numberOfDay" "[I" ∈ gtbl := gm (tm1 115 rfl) rfl
theorem wk_1_116 : Cond.fieldLink RX0 32 "GlassJar$Jar" "dayOfNumber" "[I" ∈ gtbl := gm (tm1 116 rfl) rfl
theorem wk_1_117 : Cond.fieldLink RX0 35 "GlassJar$Jar" "row" "[I" ∈ gtbl := gm (tm1 117 rfl) rfl
theorem wk_1_118 : Cond.fieldLink RX0 38 "GlassJar$Jar" "seen" "[J" ∈ gtbl := gm (tm1 118 rfl) rfl
theorem wk_1_119 : Cond.fieldLink RX0 42 "GlassJar$Jar" "lotState" "I" ∈ gtbl := gm (tm1 119 rfl) rfl
theorem wk_1_120 : Cond.lays RX0 "GlassJar$Jar" "seed" "I" ∈ gtbl := gm (tm1 120 rfl) rfl
theorem wk_1_122 : Cond.lays RX0 "GlassJar$Jar" "shakes" "I" ∈ gtbl := gm (tm1 122 rfl) rfl
theorem wk_1_124 : Cond.lays RX0 "GlassJar$Jar" "spread" "I" ∈ gtbl := gm (tm1 124 rfl) rfl
theorem wk_1_126 : Cond.lays RX0 "GlassJar$Jar" "depth" "I" ∈ gtbl := gm (tm1 126 rfl) rfl
theorem wk_1_128 : Cond.lays RX0 "GlassJar$Jar" "poured" "Z" ∈ gtbl := gm (tm1 128 rfl) rfl
theorem wk_1_130 : Cond.laysFinal RX0 "GlassJar$Jar" "numberOfDay" "[I" ∈ gtbl := gm (tm1 130 rfl) rfl
theorem wk_1_132 : Cond.laysFinal RX0 "GlassJar$Jar" "dayOfNumber" "[I" ∈ gtbl := gm (tm1 132 rfl) rfl
theorem wk_1_134 : Cond.laysFinal RX0 "GlassJar$Jar" "row" "[I" ∈ gtbl := gm (tm1 134 rfl) rfl
theorem wk_1_136 : Cond.laysFinal RX0 "GlassJar$Jar" "seen" "[J" ∈ gtbl := gm (tm1 136 rfl) rfl
theorem wk_1_138 : Cond.lays RX0 "GlassJar$Jar" "lotState" "I" ∈ gtbl := gm (tm1 138 rfl) rfl
theorem wk_1_141 : Cond.arrayClass .long ∈ gtbl := gm (tm1 141 rfl) rfl
theorem wk_1_142 : Cond.classLink RX1 21 RX2 ∈ gtbl := gm (tm1 142 rfl) rfl
theorem wk_1_143 : Cond.instantiable RX2 4 ∈ gtbl := gm (tm1 143 rfl) rfl
theorem wk_1_144 : Cond.methodLinkNest RX1 23 yX2_init RX6 ∈ nestW := nm (tm1 144 rfl) rfl
theorem wk_1_145 : Cond.instanceMethod yX2_init ∈ gtbl := gm (tm1 145 rfl) rfl
theorem wk_1_146 : Cond.code yX2_init cX2_init 1 none ∈ gtbl := gm (tm1 146 rfl) rfl
theorem wk_1_147 : Cond.methodLink RX2 3 objectInit ∈ gtbl := gm (tm1 147 rfl) rfl
theorem wk_1_148 : Cond.fieldLink RX2 9 "GlassJar$Men" "kinds" "[I" ∈ gtbl := gm (tm1 148 rfl) rfl
theorem wk_1_149 : Cond.fieldLink RX2 15 "GlassJar$Men" "birthdays" "[I" ∈ gtbl := gm (tm1 149 rfl) rfl
theorem wk_1_150 : Cond.fieldLink RX2 18 "GlassJar$Men" "pays" "[I" ∈ gtbl := gm (tm1 150 rfl) rfl
theorem wk_1_151 : Cond.fieldLink RX2 21 "GlassJar$Men" "size" "I" ∈ gtbl := gm (tm1 151 rfl) rfl
theorem wk_1_152 : Cond.fieldLinkNest RX6 65 "GlassJar$Men" "size" "I" RX6 ∈ nestW := nm (tm1 152 rfl) rfl
theorem wk_1_153 : Cond.fieldLinkNest RX1 98 "GlassJar$Men" "size" "I" RX6 ∈ nestW := nm (tm1 153 rfl) rfl
theorem wk_1_154 : Cond.laysFinal RX2 "GlassJar$Men" "kinds" "[I" ∈ gtbl := gm (tm1 154 rfl) rfl
theorem wk_1_156 : Cond.laysFinal RX2 "GlassJar$Men" "birthdays" "[I" ∈ gtbl := gm (tm1 156 rfl) rfl
theorem wk_1_158 : Cond.laysFinal RX2 "GlassJar$Men" "pays" "[I" ∈ gtbl := gm (tm1 158 rfl) rfl
theorem wk_1_160 : Cond.lays RX2 "GlassJar$Men" "size" "I" ∈ gtbl := gm (tm1 160 rfl) rfl
theorem wk_1_163 : Cond.fieldLinkNest RX1 28 "GlassJar" "FIRST_LAWS" "[I" RX6 ∈ nestW := nm (tm1 163 rfl) rfl
theorem wk_1_164 : Cond.laysStatic "GlassJar" "FIRST_LAWS" "[I" ∈ tables_1 := tm1 164 rfl
theorem wk_1_165 : Cond.methodLink RX1 32 ⟨"[I", "clone", "()Ljava/lang/Object;"⟩ ∈ gtbl := gm (tm1 165 rfl) rfl
theorem wk_1_166 : Cond.sameMethod "[I" "java/lang/Object" "clone" "()Ljava/lang/Object;" ∈ tables_1 := tm1 166 rfl
theorem wk_1_167 : Cond.native ⟨"java/lang/Object", "clone", "()Ljava/lang/Object;"⟩ ∈ gtbl := gm (tm1 167 rfl) rfl
theorem wk_1_168 : Cond.instanceMethod ⟨"java/lang/Object", "clone", "()Ljava/lang/Object;"⟩ ∈ gtbl := gm (tm1 168 rfl) rfl
theorem wk_1_169 : Cond.selects "[I" ⟨"[I", "clone", "()Ljava/lang/Object;"⟩ ⟨"java/lang/Object", "clone", "()Ljava/lang/Object;"⟩ ∈ gtbl := gm (tm1 169 rfl) rfl
theorem wk_1_170 : Cond.castable "[I" "java/lang/Cloneable" ∈ tables_1 := tm1 170 rfl
theorem wk_1_171 : Cond.classLink RX1 33 "[I" ∈ gtbl := gm (tm1 171 rfl) rfl
theorem wk_1_172 : Cond.classLink RX1 47 RX4 ∈ gtbl := gm (tm1 172 rfl) rfl
theorem wk_1_173 : Cond.instantiable RX4 4 ∈ gtbl := gm (tm1 173 rfl) rfl
theorem wk_1_174 : Cond.methodLinkNest RX1 49 yX4_init RX6 ∈ nestW := nm (tm1 174 rfl) rfl
theorem wk_1_175 : Cond.instanceMethod yX4_init ∈ gtbl := gm (tm1 175 rfl) rfl
theorem wk_1_176 : Cond.code yX4_init cX4_init 1 none ∈ gtbl := gm (tm1 176 rfl) rfl
theorem wk_1_177 : Cond.methodLink RX4 1 objectInit ∈ gtbl := gm (tm1 177 rfl) rfl
theorem wk_1_178 : Cond.fieldLink RX4 7 "GlassJar$Sides" "calledSum" "J" ∈ gtbl := gm (tm1 178 rfl) rfl
theorem wk_1_179 : Cond.fieldLink RX4 13 "GlassJar$Sides" "otherSum" "J" ∈ gtbl := gm (tm1 179 rfl) rfl
theorem wk_1_180 : Cond.fieldLink RX4 16 "GlassJar$Sides" "calledMen" "I" ∈ gtbl := gm (tm1 180 rfl) rfl
theorem wk_1_181 : Cond.fieldLink RX4 20 "GlassJar$Sides" "otherMen" "I" ∈ gtbl := gm (tm1 181 rfl) rfl
theorem wk_1_182 : Cond.lays RX4 "GlassJar$Sides" "calledSum" "J" ∈ gtbl := gm (tm1 182 rfl) rfl
theorem wk_1_184 : Cond.lays RX4 "GlassJar$Sides" "otherSum" "J" ∈ gtbl := gm (tm1 184 rfl) rfl
theorem wk_1_186 : Cond.lays RX4 "GlassJar$Sides" "calledMen" "I" ∈ gtbl := gm (tm1 186 rfl) rfl
theorem wk_1_188 : Cond.lays RX4 "GlassJar$Sides" "otherMen" "I" ∈ gtbl := gm (tm1 188 rfl) rfl
theorem wk_1_191 : Cond.classLink RX1 54 RX3 ∈ gtbl := gm (tm1 191 rfl) rfl
theorem wk_1_192 : Cond.instantiable RX3 2 ∈ gtbl := gm (tm1 192 rfl) rfl
theorem wk_1_193 : Cond.methodLinkNest RX1 56 yX3_init RX6 ∈ nestW := nm (tm1 193 rfl) rfl
theorem wk_1_194 : Cond.instanceMethod yX3_init ∈ gtbl := gm (tm1 194 rfl) rfl
theorem wk_1_195 : Cond.code yX3_init cX3_init 1 none ∈ gtbl := gm (tm1 195 rfl) rfl
theorem wk_1_196 : Cond.methodLink RX3 1 objectInit ∈ gtbl := gm (tm1 196 rfl) rfl
theorem wk_1_197 : Cond.fieldLink RX3 7 "GlassJar$Ratio" "above" "J" ∈ gtbl := gm (tm1 197 rfl) rfl
theorem wk_1_198 : Cond.fieldLinkNest RX1 146 "GlassJar$Ratio" "above" "J" RX6 ∈ nestW := nm (tm1 198 rfl) rfl
theorem wk_1_199 : Cond.fieldLink RX3 13 "GlassJar$Ratio" "below" "J" ∈ gtbl := gm (tm1 199 rfl) rfl
theorem wk_1_200 : Cond.fieldLinkNest RX1 154 "GlassJar$Ratio" "below" "J" RX6 ∈ nestW := nm (tm1 200 rfl) rfl
theorem wk_1_201 : Cond.lays RX3 "GlassJar$Ratio" "above" "J" ∈ gtbl := gm (tm1 201 rfl) rfl
theorem wk_1_203 : Cond.lays RX3 "GlassJar$Ratio" "below" "J" ∈ gtbl := gm (tm1 203 rfl) rfl
theorem wk_1_206 : Cond.fieldLink RX1 12 "GlassJar$Lottery" "firstJar" "LGlassJar$Jar;" ∈ gtbl := gm (tm1 206 rfl) rfl
theorem wk_1_207 : Cond.fieldLink RX1 18 "GlassJar$Lottery" "secondJar" "LGlassJar$Jar;" ∈ gtbl := gm (tm1 207 rfl) rfl
theorem wk_1_208 : Cond.fieldLink RX1 24 "GlassJar$Lottery" "men" "LGlassJar$Men;" ∈ gtbl := gm (tm1 208 rfl) rfl
theorem wk_1_209 : Cond.fieldLinkNest RX6 61 "GlassJar$Lottery" "men" "LGlassJar$Men;" RX6 ∈ nestW := nm (tm1 209 rfl) rfl
theorem wk_1_210 : Cond.fieldLink RX1 37 "GlassJar$Lottery" "laws" "[I" ∈ gtbl := gm (tm1 210 rfl) rfl
theorem wk_1_211 : Cond.fieldLinkNest RX6 168 "GlassJar$Lottery" "laws" "[I" RX6 ∈ nestW := nm (tm1 211 rfl) rfl
theorem wk_1_212 : Cond.fieldLink RX1 40 "GlassJar$Lottery" "cutNumber" "I" ∈ gtbl := gm (tm1 212 rfl) rfl
theorem wk_1_213 : Cond.fieldLinkNest RX6 158 "GlassJar$Lottery" "cutNumber" "I" RX6 ∈ nestW := nm (tm1 213 rfl) rfl
theorem wk_1_214 : Cond.fieldLink RX1 44 "GlassJar$Lottery" "leastMen" "I" ∈ gtbl := gm (tm1 214 rfl) rfl
theorem wk_1_215 : Cond.fieldLinkNest RX6 218 "GlassJar$Lottery" "leastMen" "I" RX6 ∈ nestW := nm (tm1 215 rfl) rfl
theorem wk_1_216 : Cond.fieldLink RX1 50 "GlassJar$Lottery" "sides" "LGlassJar$Sides;" ∈ gtbl := gm (tm1 216 rfl) rfl
theorem wk_1_217 : Cond.fieldLink RX1 57 "GlassJar$Lottery" "shareRatio" "LGlassJar$Ratio;" ∈ gtbl := gm (tm1 217 rfl) rfl
theorem wk_1_218 : Cond.laysFinal RX1 "GlassJar$Lottery" "firstJar" "LGlassJar$Jar;" ∈ gtbl := gm (tm1 218 rfl) rfl
theorem wk_1_220 : Cond.laysFinal RX1 "GlassJar$Lottery" "secondJar" "LGlassJar$Jar;" ∈ gtbl := gm (tm1 220 rfl) rfl
theorem wk_1_222 : Cond.laysFinal RX1 "GlassJar$Lottery" "men" "LGlassJar$Men;" ∈ gtbl := gm (tm1 222 rfl) rfl
theorem wk_1_224 : Cond.laysFinal RX1 "GlassJar$Lottery" "laws" "[I" ∈ gtbl := gm (tm1 224 rfl) rfl
theorem wk_1_226 : Cond.lays RX1 "GlassJar$Lottery" "cutNumber" "I" ∈ gtbl := gm (tm1 226 rfl) rfl
theorem wk_1_228 : Cond.lays RX1 "GlassJar$Lottery" "leastMen" "I" ∈ gtbl := gm (tm1 228 rfl) rfl
theorem wk_1_230 : Cond.laysFinal RX1 "GlassJar$Lottery" "sides" "LGlassJar$Sides;" ∈ gtbl := gm (tm1 230 rfl) rfl
theorem wk_1_232 : Cond.laysFinal RX1 "GlassJar$Lottery" "shareRatio" "LGlassJar$Ratio;" ∈ gtbl := gm (tm1 232 rfl) rfl
theorem wk_1_235 : Cond.classLink RX6 34 RX3 ∈ gtbl := gm (tm1 235 rfl) rfl
theorem wk_1_236 : Cond.methodLinkNest RX6 36 yX3_init RX6 ∈ nestW := nm (tm1 236 rfl) rfl
theorem wk_1_237 : Cond.fieldLink RX6 10 "GlassJar" "tape" "LGlassJar$Tape;" ∈ gtbl := gm (tm1 237 rfl) rfl
theorem wk_1_238 : Cond.fieldLink RX6 19 "GlassJar" "now" "LGlassJar$Lottery;" ∈ gtbl := gm (tm1 238 rfl) rfl
theorem wk_1_239 : Cond.fieldLink RX6 23 "GlassJar" "then" "LGlassJar$Lottery;" ∈ gtbl := gm (tm1 239 rfl) rfl
theorem wk_2_0 : Cond.fieldLink RX6 26 "GlassJar" "imageTaken" "Z" ∈ gtbl := gm (tm2 0 rfl) rfl
theorem wk_2_1 : Cond.fieldLink RX6 30 "GlassJar" "refusals" "[I" ∈ gtbl := gm (tm2 1 rfl) rfl
theorem wk_2_2 : Cond.fieldLink RX6 37 "GlassJar" "ratio" "LGlassJar$Ratio;" ∈ gtbl := gm (tm2 2 rfl) rfl
theorem wk_2_3 : Cond.laysFinal RX6 "GlassJar" "tape" "LGlassJar$Tape;" ∈ gtbl := gm (tm2 3 rfl) rfl
theorem wk_2_5 : Cond.laysFinal RX6 "GlassJar" "now" "LGlassJar$Lottery;" ∈ gtbl := gm (tm2 5 rfl) rfl
theorem wk_2_7 : Cond.laysFinal RX6 "GlassJar" "then" "LGlassJar$Lottery;" ∈ gtbl := gm (tm2 7 rfl) rfl
theorem wk_2_9 : Cond.lays RX6 "GlassJar" "imageTaken" "Z" ∈ gtbl := gm (tm2 9 rfl) rfl
theorem wk_2_11 : Cond.laysFinal RX6 "GlassJar" "refusals" "[I" ∈ gtbl := gm (tm2 11 rfl) rfl
theorem wk_2_13 : Cond.laysFinal RX6 "GlassJar" "ratio" "LGlassJar$Ratio;" ∈ gtbl := gm (tm2 13 rfl) rfl
theorem wk_2_16 : Cond.methodLink RL 15 yX6_feed ∈ gtbl := gm (tm2 16 rfl) rfl
theorem wk_2_17 : Cond.instanceMethod yX6_feed ∈ gtbl := gm (tm2 17 rfl) rfl
theorem wk_2_18 : Cond.selects RX6 yX6_feed yX6_feed ∈ gtbl := gm (tm2 18 rfl) rfl
theorem wk_2_19 : Cond.code yX6_feed cX6_feed 5 (some .int) ∈ gtbl := gm (tm2 19 rfl) rfl
theorem wk_2_20 : Cond.methodLinkNest RX6 41 yX5_hasRoomFor RX6 ∈ nestW := nm (tm2 20 rfl) rfl
theorem wk_2_22 : Cond.instanceMethod yX5_hasRoomFor ∈ gtbl := gm (tm2 22 rfl) rfl
theorem wk_2_23 : Cond.code yX5_hasRoomFor cX5_hasRoomFor 2 (some .boolean) ∈ gtbl := gm (tm2 23 rfl) rfl
theorem wk_2_24 : Cond.methodLink RX6 45 yX6_firstThatFits ∈ gtbl := gm (tm2 24 rfl) rfl
theorem wk_2_25 : Cond.static yX6_firstThatFits ∈ gtbl := gm (tm2 25 rfl) rfl
theorem wk_2_26 : Cond.code yX6_firstThatFits cX6_firstThatFits 4 (some .int) ∈ gtbl := gm (tm2 26 rfl) rfl
theorem wk_2_27 : Cond.methodLink RX6 49 yX6_refuse ∈ gtbl := gm (tm2 27 rfl) rfl
theorem wk_2_29 : Cond.instanceMethod yX6_refuse ∈ gtbl := gm (tm2 29 rfl) rfl
theorem wk_2_30 : Cond.code yX6_refuse cX6_refuse 2 (some .int) ∈ gtbl := gm (tm2 30 rfl) rfl
theorem wk_2_31 : Cond.methodLink RX6 164 yX6_at ∈ gtbl := gm (tm2 31 rfl) rfl
theorem wk_2_32 : Cond.methodLink RX6 171 yX6_put ∈ gtbl := gm (tm2 32 rfl) rfl
theorem wk_2_33 : Cond.methodLinkNest RX6 53 yX5_append RX6 ∈ nestW := nm (tm2 33 rfl) rfl
theorem wk_2_35 : Cond.instanceMethod yX5_append ∈ gtbl := gm (tm2 35 rfl) rfl
theorem wk_2_36 : Cond.code yX5_append cX5_append 5 none ∈ gtbl := gm (tm2 36 rfl) rfl
theorem wk_2_37 : Cond.methodLinkNest RX5 28 yX6_put RX6 ∈ nestW := nm (tm2 37 rfl) rfl
theorem wk_2_38 : Cond.methodLink RL 20 yX6_man ∈ gtbl := gm (tm2 38 rfl) rfl
theorem wk_2_39 : Cond.instanceMethod yX6_man ∈ gtbl := gm (tm2 39 rfl) rfl
theorem wk_2_40 : Cond.selects RX6 yX6_man yX6_man ∈ gtbl := gm (tm2 40 rfl) rfl
theorem wk_2_41 : Cond.code yX6_man cX6_man 2 (some .int) ∈ gtbl := gm (tm2 41 rfl) rfl
theorem wk_2_42 : Cond.methodLinkNest RX6 70 yX5_read RX6 ∈ nestW := nm (tm2 42 rfl) rfl
theorem wk_2_44 : Cond.instanceMethod yX5_read ∈ gtbl := gm (tm2 44 rfl) rfl
theorem wk_2_45 : Cond.code yX5_read cX5_read 4 (some .int) ∈ gtbl := gm (tm2 45 rfl) rfl
theorem wk_2_46 : Cond.methodLink RX5 32 yX5_byteAt ∈ gtbl := gm (tm2 46 rfl) rfl
theorem wk_2_48 : Cond.instanceMethod yX5_byteAt ∈ gtbl := gm (tm2 48 rfl) rfl
theorem wk_2_49 : Cond.code yX5_byteAt cX5_byteAt 2 (some .int) ∈ gtbl := gm (tm2 49 rfl) rfl
theorem wk_2_50 : Cond.methodLinkNest RX5 46 yX6_at RX6 ∈ nestW := nm (tm2 50 rfl) rfl
theorem wk_2_51 : Cond.methodLink RX5 36 yX5_kindOfLetter ∈ gtbl := gm (tm2 51 rfl) rfl
theorem wk_2_52 : Cond.static yX5_kindOfLetter ∈ gtbl := gm (tm2 52 rfl) rfl
theorem wk_2_53 : Cond.code yX5_kindOfLetter cX5_kindOfLetter 1 (some .int) ∈ gtbl := gm (tm2 53 rfl) rfl
theorem wk_2_54 : Cond.methodLink RX5 39 yX5_endOfDigits ∈ gtbl := gm (tm2 54 rfl) rfl
theorem wk_2_56 : Cond.instanceMethod yX5_endOfDigits ∈ gtbl := gm (tm2 56 rfl) rfl
theorem wk_2_57 : Cond.code yX5_endOfDigits cX5_endOfDigits 4 (some .int) ∈ gtbl := gm (tm2 57 rfl) rfl
theorem wk_2_58 : Cond.methodLink RX5 50 yX5_isDigit ∈ gtbl := gm (tm2 58 rfl) rfl
theorem wk_2_60 : Cond.instanceMethod yX5_isDigit ∈ gtbl := gm (tm2 60 rfl) rfl
theorem wk_2_61 : Cond.code yX5_isDigit cX5_isDigit 2 (some .boolean) ∈ gtbl := gm (tm2 61 rfl) rfl
theorem wk_2_62 : Cond.methodLink RX5 43 yX5_valueOf ∈ gtbl := gm (tm2 62 rfl) rfl
theorem wk_2_64 : Cond.instanceMethod yX5_valueOf ∈ gtbl := gm (tm2 64 rfl) rfl
theorem wk_2_65 : Cond.code yX5_valueOf cX5_valueOf 5 (some .int) ∈ gtbl := gm (tm2 65 rfl) rfl
theorem wk_2_66 : Cond.methodLinkNest RX6 74 yX5_empty RX6 ∈ nestW := nm (tm2 66 rfl) rfl
theorem wk_2_68 : Cond.instanceMethod yX5_empty ∈ gtbl := gm (tm2 68 rfl) rfl
theorem wk_2_69 : Cond.code yX5_empty cX5_empty 1 none ∈ gtbl := gm (tm2 69 rfl) rfl
theorem wk_2_70 : Cond.methodLinkNest RX6 86 yX2_enrol RX6 ∈ nestW := nm (tm2 70 rfl) rfl
theorem wk_2_72 : Cond.instanceMethod yX2_enrol ∈ gtbl := gm (tm2 72 rfl) rfl
theorem wk_2_73 : Cond.code yX2_enrol cX2_enrol 5 (some .int) ∈ gtbl := gm (tm2 73 rfl) rfl
theorem wk_2_74 : Cond.methodLinkNest RX2 25 yX6_put RX6 ∈ nestW := nm (tm2 74 rfl) rfl
theorem wk_2_75 : Cond.methodLink RL 25 yX6_jar ∈ gtbl := gm (tm2 75 rfl) rfl
theorem wk_2_76 : Cond.instanceMethod yX6_jar ∈ gtbl := gm (tm2 76 rfl) rfl
theorem wk_2_77 : Cond.selects RX6 yX6_jar yX6_jar ∈ gtbl := gm (tm2 77 rfl) rfl
theorem wk_2_78 : Cond.code yX6_jar cX6_jar 7 (some .int) ∈ gtbl := gm (tm2 78 rfl) rfl
theorem wk_2_79 : Cond.methodLink RX6 90 yX6_isJar ∈ gtbl := gm (tm2 79 rfl) rfl
theorem wk_2_80 : Cond.static yX6_isJar ∈ gtbl := gm (tm2 80 rfl) rfl
theorem wk_2_81 : Cond.code yX6_isJar cX6_isJar 1 (some .boolean) ∈ gtbl := gm (tm2 81 rfl) rfl
theorem wk_2_82 : Cond.methodLinkNest RX6 93 yX1_jarAt RX6 ∈ nestW := nm (tm2 82 rfl) rfl
theorem wk_2_84 : Cond.instanceMethod yX1_jarAt ∈ gtbl := gm (tm2 84 rfl) rfl
theorem wk_2_85 : Cond.code yX1_jarAt cX1_jarAt 2 (some (.object "GlassJar$Jar")) ∈ gtbl := gm (tm2 85 rfl) rfl
theorem wk_2_86 : Cond.methodLinkNest RX6 97 yX0_prepare RX6 ∈ nestW := nm (tm2 86 rfl) rfl
theorem wk_2_88 : Cond.instanceMethod yX0_prepare ∈ gtbl := gm (tm2 88 rfl) rfl
theorem wk_2_89 : Cond.code yX0_prepare cX0_prepare 5 none ∈ gtbl := gm (tm2 89 rfl) rfl
theorem wk_2_90 : Cond.methodLink RL 30 yX6_pour ∈ gtbl := gm (tm2 90 rfl) rfl
theorem wk_2_91 : Cond.instanceMethod yX6_pour ∈ gtbl := gm (tm2 91 rfl) rfl
theorem wk_2_92 : Cond.selects RX6 yX6_pour yX6_pour ∈ gtbl := gm (tm2 92 rfl) rfl
theorem wk_2_93 : Cond.code yX6_pour cX6_pour 3 (some .int) ∈ gtbl := gm (tm2 93 rfl) rfl
theorem wk_2_94 : Cond.methodLinkNest RX6 103 yX0_turnOver RX6 ∈ nestW := nm (tm2 94 rfl) rfl
theorem wk_2_96 : Cond.instanceMethod yX0_turnOver ∈ gtbl := gm (tm2 96 rfl) rfl
theorem wk_2_97 : Cond.code yX0_turnOver cX0_turnOver 2 (some .boolean) ∈ gtbl := gm (tm2 97 rfl) rfl
theorem wk_2_98 : Cond.methodLink RL 35 yX6_number ∈ gtbl := gm (tm2 98 rfl) rfl
theorem wk_2_99 : Cond.instanceMethod yX6_number ∈ gtbl := gm (tm2 99 rfl) rfl
theorem wk_2_100 : Cond.selects RX6 yX6_number yX6_number ∈ gtbl := gm (tm2 100 rfl) rfl
theorem wk_2_101 : Cond.code yX6_number cX6_number 3 (some .int) ∈ gtbl := gm (tm2 101 rfl) rfl
theorem wk_2_102 : Cond.methodLinkNest RX6 107 yX0_numberAt RX6 ∈ nestW := nm (tm2 102 rfl) rfl
theorem wk_2_104 : Cond.instanceMethod yX0_numberAt ∈ gtbl := gm (tm2 104 rfl) rfl
theorem wk_2_105 : Cond.code yX0_numberAt cX0_numberAt 2 (some .int) ∈ gtbl := gm (tm2 105 rfl) rfl
theorem wk_2_106 : Cond.methodLink RL 40 yX6_dayOf ∈ gtbl := gm (tm2 106 rfl) rfl
theorem wk_2_107 : Cond.instanceMethod yX6_dayOf ∈ gtbl := gm (tm2 107 rfl) rfl
theorem wk_2_108 : Cond.selects RX6 yX6_dayOf yX6_dayOf ∈ gtbl := gm (tm2 108 rfl) rfl
theorem wk_2_109 : Cond.code yX6_dayOf cX6_dayOf 4 (some .int) ∈ gtbl := gm (tm2 109 rfl) rfl
theorem wk_2_110 : Cond.methodLinkNest RX6 110 yX0_dayAt RX6 ∈ nestW := nm (tm2 110 rfl) rfl
theorem wk_2_112 : Cond.instanceMethod yX0_dayAt ∈ gtbl := gm (tm2 112 rfl) rfl
theorem wk_2_113 : Cond.code yX0_dayAt cX0_dayAt 2 (some .int) ∈ gtbl := gm (tm2 113 rfl) rfl
theorem wk_2_114 : Cond.methodLink RL 44 yX6_mean ∈ gtbl := gm (tm2 114 rfl) rfl
theorem wk_2_115 : Cond.instanceMethod yX6_mean ∈ gtbl := gm (tm2 115 rfl) rfl
theorem wk_2_116 : Cond.selects RX6 yX6_mean yX6_mean ∈ gtbl := gm (tm2 116 rfl) rfl
theorem wk_2_117 : Cond.code yX6_mean cX6_mean 5 (some .long) ∈ gtbl := gm (tm2 117 rfl) rfl
theorem wk_2_118 : Cond.methodLink RX6 113 yX6_isMonth ∈ gtbl := gm (tm2 118 rfl) rfl
theorem wk_2_119 : Cond.static yX6_isMonth ∈ gtbl := gm (tm2 119 rfl) rfl
theorem wk_2_120 : Cond.code yX6_isMonth cX6_isMonth 1 (some .boolean) ∈ gtbl := gm (tm2 120 rfl) rfl
theorem wk_2_121 : Cond.methodLink RX6 116 yX6_isPart ∈ gtbl := gm (tm2 121 rfl) rfl
theorem wk_2_122 : Cond.static yX6_isPart ∈ gtbl := gm (tm2 122 rfl) rfl
theorem wk_2_123 : Cond.code yX6_isPart cX6_isPart 1 (some .boolean) ∈ gtbl := gm (tm2 123 rfl) rfl
theorem wk_2_124 : Cond.methodLink RX6 119 yX6_refuseLong ∈ gtbl := gm (tm2 124 rfl) rfl
theorem wk_2_126 : Cond.instanceMethod yX6_refuseLong ∈ gtbl := gm (tm2 126 rfl) rfl
theorem wk_2_127 : Cond.code yX6_refuseLong cX6_refuseLong 2 (some .long) ∈ gtbl := gm (tm2 127 rfl) rfl
theorem wk_2_128 : Cond.constantLong RX6 232 (4000000000000000000 : Int64) ∈ gtbl := gm (tm2 128 rfl) rfl
theorem wk_2_129 : Cond.methodLinkNest RX6 123 yX0_monthSum RX6 ∈ nestW := nm (tm2 129 rfl) rfl
theorem wk_2_131 : Cond.instanceMethod yX0_monthSum ∈ gtbl := gm (tm2 131 rfl) rfl
theorem wk_2_132 : Cond.code yX0_monthSum cX0_monthSum 4 (some .int) ∈ gtbl := gm (tm2 132 rfl) rfl
theorem wk_2_133 : Cond.fieldLinkNest RX0 101 "GlassJar" "MONTH_STARTS" "[I" RX6 ∈ nestW := nm (tm2 133 rfl) rfl
theorem wk_2_134 : Cond.laysStatic "GlassJar" "MONTH_STARTS" "[I" ∈ tables_1 := tm2 134 rfl
theorem wk_2_135 : Cond.methodLink RX0 104 yX0_numberAt ∈ gtbl := gm (tm2 135 rfl) rfl
theorem wk_2_136 : Cond.methodLink RX6 126 yX6_monthLength ∈ gtbl := gm (tm2 136 rfl) rfl
theorem wk_2_137 : Cond.static yX6_monthLength ∈ gtbl := gm (tm2 137 rfl) rfl
theorem wk_2_138 : Cond.code yX6_monthLength cX6_monthLength 1 (some .int) ∈ gtbl := gm (tm2 138 rfl) rfl
theorem wk_2_139 : Cond.fieldLink RX6 246 "GlassJar" "MONTH_STARTS" "[I" ∈ gtbl := gm (tm2 139 rfl) rfl
theorem wk_2_140 : Cond.methodLinkNest RX6 129 yX3_become RX6 ∈ nestW := nm (tm2 140 rfl) rfl
theorem wk_2_142 : Cond.instanceMethod yX3_become ∈ gtbl := gm (tm2 142 rfl) rfl
theorem wk_2_143 : Cond.code yX3_become cX3_become 9 none ∈ gtbl := gm (tm2 143 rfl) rfl
theorem wk_2_144 : Cond.methodLink RX3 16 yJ9_abs_067f4 ∈ gtbl := gm (tm2 144 rfl) rfl
theorem wk_2_145 : Cond.static yJ9_abs_067f4 ∈ gtbl := gm (tm2 145 rfl) rfl
theorem wk_2_146 : Cond.code yJ9_abs_067f4 cJ9_abs_067f4 2 (some .long) ∈ gtbl := gm (tm2 146 rfl) rfl
theorem wk_2_147 : Cond.methodLink RX3 22 yX3_commonDivisor ∈ gtbl := gm (tm2 147 rfl) rfl
theorem wk_2_148 : Cond.static yX3_commonDivisor ∈ gtbl := gm (tm2 148 rfl) rfl
theorem wk_2_149 : Cond.code yX3_commonDivisor cX3_commonDivisor 11 (some .long) ∈ gtbl := gm (tm2 149 rfl) rfl
theorem wk_2_150 : Cond.constantLong RX3 26 (-1 : Int64) ∈ gtbl := gm (tm2 150 rfl) rfl
theorem wk_2_151 : Cond.methodLinkNest RX6 133 yX3_partAt RX6 ∈ nestW := nm (tm2 151 rfl) rfl
theorem wk_2_153 : Cond.instanceMethod yX3_partAt ∈ gtbl := gm (tm2 153 rfl) rfl
theorem wk_2_154 : Cond.code yX3_partAt cX3_partAt 2 (some .long) ∈ gtbl := gm (tm2 154 rfl) rfl
theorem wk_2_155 : Cond.methodLink RL 49 yX6_lean ∈ gtbl := gm (tm2 155 rfl) rfl
theorem wk_2_156 : Cond.instanceMethod yX6_lean ∈ gtbl := gm (tm2 156 rfl) rfl
theorem wk_2_157 : Cond.selects RX6 yX6_lean yX6_lean ∈ gtbl := gm (tm2 157 rfl) rfl
theorem wk_2_158 : Cond.code yX6_lean cX6_lean 2 (some .long) ∈ gtbl := gm (tm2 158 rfl) rfl
theorem wk_2_159 : Cond.methodLinkNest RX6 136 yX0_leaning RX6 ∈ nestW := nm (tm2 159 rfl) rfl
theorem wk_2_161 : Cond.instanceMethod yX0_leaning ∈ gtbl := gm (tm2 161 rfl) rfl
theorem wk_2_162 : Cond.code yX0_leaning cX0_leaning 4 (some .long) ∈ gtbl := gm (tm2 162 rfl) rfl
theorem wk_2_163 : Cond.constantLong RX0 107 (2 : Int64) ∈ gtbl := gm (tm2 163 rfl) rfl
theorem wk_2_164 : Cond.constantLong RX0 109 (365 : Int64) ∈ gtbl := gm (tm2 164 rfl) rfl
theorem wk_2_165 : Cond.constantLong RX0 111 (367 : Int64) ∈ gtbl := gm (tm2 165 rfl) rfl
theorem wk_2_166 : Cond.methodLink RL 54 yX6_worst ∈ gtbl := gm (tm2 166 rfl) rfl
theorem wk_2_167 : Cond.instanceMethod yX6_worst ∈ gtbl := gm (tm2 167 rfl) rfl
theorem wk_2_168 : Cond.selects RX6 yX6_worst yX6_worst ∈ gtbl := gm (tm2 168 rfl) rfl
theorem wk_2_169 : Cond.code yX6_worst cX6_worst 2 (some .int) ∈ gtbl := gm (tm2 169 rfl) rfl
theorem wk_2_170 : Cond.methodLinkNest RX6 140 yX0_worstMonth RX6 ∈ nestW := nm (tm2 170 rfl) rfl
theorem wk_2_172 : Cond.instanceMethod yX0_worstMonth ∈ gtbl := gm (tm2 172 rfl) rfl
theorem wk_2_173 : Cond.code yX0_worstMonth cX0_worstMonth 3 (some .int) ∈ gtbl := gm (tm2 173 rfl) rfl
theorem wk_2_174 : Cond.methodLink RX0 113 yX0_monthDistance ∈ gtbl := gm (tm2 174 rfl) rfl
theorem wk_2_176 : Cond.instanceMethod yX0_monthDistance ∈ gtbl := gm (tm2 176 rfl) rfl
theorem wk_2_177 : Cond.code yX0_monthDistance cX0_monthDistance 2 (some .long) ∈ gtbl := gm (tm2 177 rfl) rfl
theorem wk_2_178 : Cond.methodLink RX0 120 yX0_monthSum ∈ gtbl := gm (tm2 178 rfl) rfl
theorem wk_2_179 : Cond.methodLinkNest RX0 117 yX6_monthLength RX6 ∈ nestW := nm (tm2 179 rfl) rfl
theorem wk_2_180 : Cond.methodLink RX0 123 yJ9_abs_067f4 ∈ gtbl := gm (tm2 180 rfl) rfl
theorem wk_2_181 : Cond.methodLink RL 59 yX6_turned ∈ gtbl := gm (tm2 181 rfl) rfl
theorem wk_2_182 : Cond.instanceMethod yX6_turned ∈ gtbl := gm (tm2 182 rfl) rfl
theorem wk_2_183 : Cond.selects RX6 yX6_turned yX6_turned ∈ gtbl := gm (tm2 183 rfl) rfl
theorem wk_2_184 : Cond.code yX6_turned cX6_turned 2 (some .int) ∈ gtbl := gm (tm2 184 rfl) rfl
theorem wk_2_185 : Cond.methodLinkNest RX6 143 yX0_turnedPairs RX6 ∈ nestW := nm (tm2 185 rfl) rfl
theorem wk_2_187 : Cond.instanceMethod yX0_turnedPairs ∈ gtbl := gm (tm2 187 rfl) rfl
theorem wk_2_188 : Cond.code yX0_turnedPairs cX0_turnedPairs 4 (some .int) ∈ gtbl := gm (tm2 188 rfl) rfl
theorem wk_2_189 : Cond.methodLink RX0 127 yJ7_fill_d0a16 ∈ gtbl := gm (tm2 189 rfl) rfl
theorem wk_2_190 : Cond.static yJ7_fill_d0a16 ∈ gtbl := gm (tm2 190 rfl) rfl
theorem wk_2_191 : Cond.code yJ7_fill_d0a16 cJ7_fill_d0a16 5 none ∈ gtbl := gm (tm2 191 rfl) rfl
theorem wk_2_192 : Cond.methodLink RX0 133 yX0_seenAbove ∈ gtbl := gm (tm2 192 rfl) rfl
theorem wk_2_194 : Cond.instanceMethod yX0_seenAbove ∈ gtbl := gm (tm2 194 rfl) rfl
theorem wk_2_195 : Cond.code yX0_seenAbove cX0_seenAbove 5 (some .int) ∈ gtbl := gm (tm2 195 rfl) rfl
theorem wk_2_196 : Cond.methodLink RX0 140 yJ13_bitCount_95d88 ∈ gtbl := gm (tm2 196 rfl) rfl
theorem wk_2_197 : Cond.static yJ13_bitCount_95d88 ∈ gtbl := gm (tm2 197 rfl) rfl
theorem wk_2_198 : Cond.code yJ13_bitCount_95d88 cJ13_bitCount_95d88 2 (some .int) ∈ gtbl := gm (tm2 198 rfl) rfl
theorem wk_2_199 : Cond.constantLong RJ13 314 (6148914691236517205 : Int64) ∈ gtbl := gm (tm2 199 rfl) rfl
theorem wk_2_200 : Cond.constantLong RJ13 316 (3689348814741910323 : Int64) ∈ gtbl := gm (tm2 200 rfl) rfl
theorem wk_2_201 : Cond.constantLong RJ13 318 (1085102592571150095 : Int64) ∈ gtbl := gm (tm2 201 rfl) rfl
theorem wk_2_202 : Cond.methodLink RX0 136 yX0_markSeen ∈ gtbl := gm (tm2 202 rfl) rfl
theorem wk_2_204 : Cond.instanceMethod yX0_markSeen ∈ gtbl := gm (tm2 204 rfl) rfl
theorem wk_2_205 : Cond.code yX0_markSeen cX0_markSeen 3 none ∈ gtbl := gm (tm2 205 rfl) rfl
theorem wk_2_206 : Cond.methodLink RL 63 yX6_manOf ∈ gtbl := gm (tm2 206 rfl) rfl
theorem wk_2_207 : Cond.instanceMethod yX6_manOf ∈ gtbl := gm (tm2 207 rfl) rfl
theorem wk_2_208 : Cond.selects RX6 yX6_manOf yX6_manOf ∈ gtbl := gm (tm2 208 rfl) rfl
theorem wk_2_209 : Cond.code yX6_manOf cX6_manOf 4 (some .int) ∈ gtbl := gm (tm2 209 rfl) rfl
theorem wk_2_210 : Cond.methodLink RX6 146 yX6_isMan ∈ gtbl := gm (tm2 210 rfl) rfl
theorem wk_2_212 : Cond.instanceMethod yX6_isMan ∈ gtbl := gm (tm2 212 rfl) rfl
theorem wk_2_213 : Cond.code yX6_isMan cX6_isMan 2 (some .boolean) ∈ gtbl := gm (tm2 213 rfl) rfl
theorem wk_2_214 : Cond.methodLinkNest RX6 149 yX2_kindAt RX6 ∈ nestW := nm (tm2 214 rfl) rfl
theorem wk_2_216 : Cond.instanceMethod yX2_kindAt ∈ gtbl := gm (tm2 216 rfl) rfl
theorem wk_2_217 : Cond.code yX2_kindAt cX2_kindAt 2 (some .int) ∈ gtbl := gm (tm2 217 rfl) rfl
theorem wk_2_218 : Cond.methodLinkNest RX2 33 yX6_at RX6 ∈ nestW := nm (tm2 218 rfl) rfl
theorem wk_2_219 : Cond.methodLinkNest RX6 152 yX2_birthdayAt RX6 ∈ nestW := nm (tm2 219 rfl) rfl
theorem wk_2_221 : Cond.instanceMethod yX2_birthdayAt ∈ gtbl := gm (tm2 221 rfl) rfl
theorem wk_2_222 : Cond.code yX2_birthdayAt cX2_birthdayAt 2 (some .int) ∈ gtbl := gm (tm2 222 rfl) rfl
theorem wk_2_223 : Cond.methodLinkNest RX6 155 yX2_payAt RX6 ∈ nestW := nm (tm2 223 rfl) rfl
theorem wk_2_225 : Cond.instanceMethod yX2_payAt ∈ gtbl := gm (tm2 225 rfl) rfl
theorem wk_2_226 : Cond.code yX2_payAt cX2_payAt 2 (some .int) ∈ gtbl := gm (tm2 226 rfl) rfl
theorem wk_2_227 : Cond.methodLink RL 67 yX6_cut ∈ gtbl := gm (tm2 227 rfl) rfl
theorem wk_2_228 : Cond.instanceMethod yX6_cut ∈ gtbl := gm (tm2 228 rfl) rfl
theorem wk_2_229 : Cond.selects RX6 yX6_cut yX6_cut ∈ gtbl := gm (tm2 229 rfl) rfl
theorem wk_2_230 : Cond.code yX6_cut cX6_cut 4 (some .int) ∈ gtbl := gm (tm2 230 rfl) rfl
theorem wk_2_231 : Cond.methodLink RL 71 yX6_law ∈ gtbl := gm (tm2 231 rfl) rfl
theorem wk_2_232 : Cond.instanceMethod yX6_law ∈ gtbl := gm (tm2 232 rfl) rfl
theorem wk_2_233 : Cond.selects RX6 yX6_law yX6_law ∈ gtbl := gm (tm2 233 rfl) rfl
theorem wk_2_234 : Cond.code yX6_law cX6_law 6 (some .int) ∈ gtbl := gm (tm2 234 rfl) rfl
theorem wk_2_235 : Cond.fieldLink RX6 161 "GlassJar" "GREATEST_LAWS" "[I" ∈ gtbl := gm (tm2 235 rfl) rfl
theorem wk_2_236 : Cond.laysStatic "GlassJar" "GREATEST_LAWS" "[I" ∈ tables_1 := tm2 236 rfl
theorem wk_2_237 : Cond.methodLink RL 75 yX6_called ∈ gtbl := gm (tm2 237 rfl) rfl
theorem wk_2_238 : Cond.instanceMethod yX6_called ∈ gtbl := gm (tm2 238 rfl) rfl
theorem wk_2_239 : Cond.selects RX6 yX6_called yX6_called ∈ gtbl := gm (tm2 239 rfl) rfl
theorem wk_3_0 : Cond.code yX6_called cX6_called 3 (some .int) ∈ gtbl := gm (tm3 0 rfl) rfl
theorem wk_3_1 : Cond.methodLinkNest RX6 175 yX1_isCalledBy RX6 ∈ nestW := nm (tm3 1 rfl) rfl
theorem wk_3_3 : Cond.instanceMethod yX1_isCalledBy ∈ gtbl := gm (tm3 3 rfl) rfl
theorem wk_3_4 : Cond.code yX1_isCalledBy cX1_isCalledBy 3 (some .boolean) ∈ gtbl := gm (tm3 4 rfl) rfl
theorem wk_3_5 : Cond.methodLink RX1 80 yX1_numberOfMan ∈ gtbl := gm (tm3 5 rfl) rfl
theorem wk_3_7 : Cond.instanceMethod yX1_numberOfMan ∈ gtbl := gm (tm3 7 rfl) rfl
theorem wk_3_8 : Cond.code yX1_numberOfMan cX1_numberOfMan 3 (some .int) ∈ gtbl := gm (tm3 8 rfl) rfl
theorem wk_3_9 : Cond.methodLinkNest RX1 73 yX2_birthdayAt RX6 ∈ nestW := nm (tm3 9 rfl) rfl
theorem wk_3_10 : Cond.methodLinkNest RX1 77 yX0_numberAt RX6 ∈ nestW := nm (tm3 10 rfl) rfl
theorem wk_3_11 : Cond.methodLink RX1 84 yX1_isCalled ∈ gtbl := gm (tm3 11 rfl) rfl
theorem wk_3_13 : Cond.instanceMethod yX1_isCalled ∈ gtbl := gm (tm3 13 rfl) rfl
theorem wk_3_14 : Cond.code yX1_isCalled cX1_isCalled 2 (some .boolean) ∈ gtbl := gm (tm3 14 rfl) rfl
theorem wk_3_15 : Cond.methodLink RL 79 yX6_served ∈ gtbl := gm (tm3 15 rfl) rfl
theorem wk_3_16 : Cond.instanceMethod yX6_served ∈ gtbl := gm (tm3 16 rfl) rfl
theorem wk_3_17 : Cond.selects RX6 yX6_served yX6_served ∈ gtbl := gm (tm3 17 rfl) rfl
theorem wk_3_18 : Cond.code yX6_served cX6_served 3 (some .int) ∈ gtbl := gm (tm3 18 rfl) rfl
theorem wk_3_19 : Cond.methodLinkNest RX6 179 yX1_serviceOf RX6 ∈ nestW := nm (tm3 19 rfl) rfl
theorem wk_3_21 : Cond.instanceMethod yX1_serviceOf ∈ gtbl := gm (tm3 21 rfl) rfl
theorem wk_3_22 : Cond.code yX1_serviceOf cX1_serviceOf 3 (some .int) ∈ gtbl := gm (tm3 22 rfl) rfl
theorem wk_3_23 : Cond.methodLinkNest RX1 88 yX2_kindAt RX6 ∈ nestW := nm (tm3 23 rfl) rfl
theorem wk_3_24 : Cond.methodLink RX1 91 yX1_serviceBy ∈ gtbl := gm (tm3 24 rfl) rfl
theorem wk_3_26 : Cond.instanceMethod yX1_serviceBy ∈ gtbl := gm (tm3 26 rfl) rfl
theorem wk_3_27 : Cond.code yX1_serviceBy cX1_serviceBy 4 (some .int) ∈ gtbl := gm (tm3 27 rfl) rfl
theorem wk_3_28 : Cond.methodLink RX1 95 yX1_isEven ∈ gtbl := gm (tm3 28 rfl) rfl
theorem wk_3_29 : Cond.static yX1_isEven ∈ gtbl := gm (tm3 29 rfl) rfl
theorem wk_3_30 : Cond.code yX1_isEven cX1_isEven 1 (some .boolean) ∈ gtbl := gm (tm3 30 rfl) rfl
theorem wk_3_31 : Cond.methodLink RL 83 yX6_wage ∈ gtbl := gm (tm3 31 rfl) rfl
theorem wk_3_32 : Cond.instanceMethod yX6_wage ∈ gtbl := gm (tm3 32 rfl) rfl
theorem wk_3_33 : Cond.selects RX6 yX6_wage yX6_wage ∈ gtbl := gm (tm3 33 rfl) rfl
theorem wk_3_34 : Cond.code yX6_wage cX6_wage 5 (some .long) ∈ gtbl := gm (tm3 34 rfl) rfl
theorem wk_3_35 : Cond.methodLinkNest RX6 183 yX1_wageOf RX6 ∈ nestW := nm (tm3 35 rfl) rfl
theorem wk_3_37 : Cond.instanceMethod yX1_wageOf ∈ gtbl := gm (tm3 37 rfl) rfl
theorem wk_3_38 : Cond.code yX1_wageOf cX1_wageOf 7 (some .int) ∈ gtbl := gm (tm3 38 rfl) rfl
theorem wk_3_39 : Cond.methodLinkNest RX1 117 yX2_payAt RX6 ∈ nestW := nm (tm3 39 rfl) rfl
theorem wk_3_40 : Cond.methodLinkNest RX1 105 yX6_at RX6 ∈ nestW := nm (tm3 40 rfl) rfl
theorem wk_3_41 : Cond.methodLink RX1 120 yX1_changeByService ∈ gtbl := gm (tm3 41 rfl) rfl
theorem wk_3_43 : Cond.instanceMethod yX1_changeByService ∈ gtbl := gm (tm3 43 rfl) rfl
theorem wk_3_44 : Cond.code yX1_changeByService cX1_changeByService 3 (some .int) ∈ gtbl := gm (tm3 44 rfl) rfl
theorem wk_3_45 : Cond.methodLink RX1 114 yX1_lossLeft ∈ gtbl := gm (tm3 45 rfl) rfl
theorem wk_3_47 : Cond.instanceMethod yX1_lossLeft ∈ gtbl := gm (tm3 47 rfl) rfl
theorem wk_3_48 : Cond.code yX1_lossLeft cX1_lossLeft 2 (some .int) ∈ gtbl := gm (tm3 48 rfl) rfl
theorem wk_3_49 : Cond.methodLink RX1 109 yJ9_max_7cf53 ∈ gtbl := gm (tm3 49 rfl) rfl
theorem wk_3_50 : Cond.methodLink RL 87 yX6_does ∈ gtbl := gm (tm3 50 rfl) rfl
theorem wk_3_51 : Cond.instanceMethod yX6_does ∈ gtbl := gm (tm3 51 rfl) rfl
theorem wk_3_52 : Cond.selects RX6 yX6_does yX6_does ∈ gtbl := gm (tm3 52 rfl) rfl
theorem wk_3_53 : Cond.code yX6_does cX6_does 5 (some .long) ∈ gtbl := gm (tm3 53 rfl) rfl
theorem wk_3_54 : Cond.methodLinkNest RX6 187 yX1_findDoes RX6 ∈ nestW := nm (tm3 54 rfl) rfl
theorem wk_3_56 : Cond.instanceMethod yX1_findDoes ∈ gtbl := gm (tm3 56 rfl) rfl
theorem wk_3_57 : Cond.code yX1_findDoes cX1_findDoes 5 (some .boolean) ∈ gtbl := gm (tm3 57 rfl) rfl
theorem wk_3_58 : Cond.methodLinkNest RX1 123 yX4_clear RX6 ∈ nestW := nm (tm3 58 rfl) rfl
theorem wk_3_60 : Cond.instanceMethod yX4_clear ∈ gtbl := gm (tm3 60 rfl) rfl
theorem wk_3_61 : Cond.code yX4_clear cX4_clear 1 none ∈ gtbl := gm (tm3 61 rfl) rfl
theorem wk_3_62 : Cond.methodLink RX1 126 yX1_isCalledBy ∈ gtbl := gm (tm3 62 rfl) rfl
theorem wk_3_63 : Cond.methodLink RX1 130 yX1_wageOf ∈ gtbl := gm (tm3 63 rfl) rfl
theorem wk_3_64 : Cond.methodLinkNest RX1 134 yX4_enter RX6 ∈ nestW := nm (tm3 64 rfl) rfl
theorem wk_3_66 : Cond.instanceMethod yX4_enter ∈ gtbl := gm (tm3 66 rfl) rfl
theorem wk_3_67 : Cond.code yX4_enter cX4_enter 4 none ∈ gtbl := gm (tm3 67 rfl) rfl
theorem wk_3_68 : Cond.methodLinkNest RX1 138 yX4_findGap RX6 ∈ nestW := nm (tm3 68 rfl) rfl
theorem wk_3_70 : Cond.instanceMethod yX4_findGap ∈ gtbl := gm (tm3 70 rfl) rfl
theorem wk_3_71 : Cond.code yX4_findGap cX4_findGap 2 (some .boolean) ∈ gtbl := gm (tm3 71 rfl) rfl
theorem wk_3_72 : Cond.methodLinkNest RX4 23 yX3_become RX6 ∈ nestW := nm (tm3 72 rfl) rfl
theorem wk_3_73 : Cond.methodLink RX6 191 yX6_partOrNone ∈ gtbl := gm (tm3 73 rfl) rfl
theorem wk_3_75 : Cond.instanceMethod yX6_partOrNone ∈ gtbl := gm (tm3 75 rfl) rfl
theorem wk_3_76 : Cond.code yX6_partOrNone cX6_partOrNone 3 (some .long) ∈ gtbl := gm (tm3 76 rfl) rfl
theorem wk_3_77 : Cond.methodLink RL 91 yX6_share ∈ gtbl := gm (tm3 77 rfl) rfl
theorem wk_3_78 : Cond.instanceMethod yX6_share ∈ gtbl := gm (tm3 78 rfl) rfl
theorem wk_3_79 : Cond.selects RX6 yX6_share yX6_share ∈ gtbl := gm (tm3 79 rfl) rfl
theorem wk_3_80 : Cond.code yX6_share cX6_share 4 (some .long) ∈ gtbl := gm (tm3 80 rfl) rfl
theorem wk_3_81 : Cond.methodLinkNest RX6 195 yX1_findShare RX6 ∈ nestW := nm (tm3 81 rfl) rfl
theorem wk_3_83 : Cond.instanceMethod yX1_findShare ∈ gtbl := gm (tm3 83 rfl) rfl
theorem wk_3_84 : Cond.code yX1_findShare cX1_findShare 5 (some .boolean) ∈ gtbl := gm (tm3 84 rfl) rfl
theorem wk_3_85 : Cond.methodLink RX1 101 yX1_hasServed ∈ gtbl := gm (tm3 85 rfl) rfl
theorem wk_3_87 : Cond.instanceMethod yX1_hasServed ∈ gtbl := gm (tm3 87 rfl) rfl
theorem wk_3_88 : Cond.code yX1_hasServed cX1_hasServed 4 (some .boolean) ∈ gtbl := gm (tm3 88 rfl) rfl
theorem wk_3_89 : Cond.methodLink RL 96 yX6_serving ∈ gtbl := gm (tm3 89 rfl) rfl
theorem wk_3_90 : Cond.instanceMethod yX6_serving ∈ gtbl := gm (tm3 90 rfl) rfl
theorem wk_3_91 : Cond.selects RX6 yX6_serving yX6_serving ∈ gtbl := gm (tm3 91 rfl) rfl
theorem wk_3_92 : Cond.code yX6_serving cX6_serving 5 (some .long) ∈ gtbl := gm (tm3 92 rfl) rfl
theorem wk_3_93 : Cond.methodLinkNest RX6 199 yX1_findServing RX6 ∈ nestW := nm (tm3 93 rfl) rfl
theorem wk_3_95 : Cond.instanceMethod yX1_findServing ∈ gtbl := gm (tm3 95 rfl) rfl
theorem wk_3_96 : Cond.code yX1_findServing cX1_findServing 4 (some .boolean) ∈ gtbl := gm (tm3 96 rfl) rfl
theorem wk_3_97 : Cond.methodLink RX1 142 yX1_findShare ∈ gtbl := gm (tm3 97 rfl) rfl
theorem wk_3_98 : Cond.methodLink RX1 150 yX1_findDoes ∈ gtbl := gm (tm3 98 rfl) rfl
theorem wk_3_99 : Cond.methodLinkNest RX1 157 yX3_become RX6 ∈ nestW := nm (tm3 99 rfl) rfl
theorem wk_3_100 : Cond.methodLink RL 100 yX6_truly ∈ gtbl := gm (tm3 100 rfl) rfl
theorem wk_3_101 : Cond.instanceMethod yX6_truly ∈ gtbl := gm (tm3 101 rfl) rfl
theorem wk_3_102 : Cond.selects RX6 yX6_truly yX6_truly ∈ gtbl := gm (tm3 102 rfl) rfl
theorem wk_3_103 : Cond.code yX6_truly cX6_truly 5 (some .long) ∈ gtbl := gm (tm3 103 rfl) rfl
theorem wk_3_104 : Cond.methodLinkNest RX6 202 yX1_findTruly RX6 ∈ nestW := nm (tm3 104 rfl) rfl
theorem wk_3_106 : Cond.instanceMethod yX1_findTruly ∈ gtbl := gm (tm3 106 rfl) rfl
theorem wk_3_107 : Cond.code yX1_findTruly cX1_findTruly 5 (some .boolean) ∈ gtbl := gm (tm3 107 rfl) rfl
theorem wk_3_108 : Cond.methodLink RX1 161 yX1_servesOnlyIfCalled ∈ gtbl := gm (tm3 108 rfl) rfl
theorem wk_3_110 : Cond.instanceMethod yX1_servesOnlyIfCalled ∈ gtbl := gm (tm3 110 rfl) rfl
theorem wk_3_111 : Cond.code yX1_servesOnlyIfCalled cX1_servesOnlyIfCalled 3 (some .boolean) ∈ gtbl := gm (tm3 111 rfl) rfl
theorem wk_3_112 : Cond.methodLink RL 104 yX6_faded ∈ gtbl := gm (tm3 112 rfl) rfl
theorem wk_3_113 : Cond.instanceMethod yX6_faded ∈ gtbl := gm (tm3 113 rfl) rfl
theorem wk_3_114 : Cond.selects RX6 yX6_faded yX6_faded ∈ gtbl := gm (tm3 114 rfl) rfl
theorem wk_3_115 : Cond.code yX6_faded cX6_faded 5 (some .int) ∈ gtbl := gm (tm3 115 rfl) rfl
theorem wk_3_116 : Cond.methodLinkNest RX6 205 yX3_isWithin RX6 ∈ nestW := nm (tm3 116 rfl) rfl
theorem wk_3_118 : Cond.instanceMethod yX3_isWithin ∈ gtbl := gm (tm3 118 rfl) rfl
theorem wk_3_119 : Cond.code yX3_isWithin cX3_isWithin 3 (some .boolean) ∈ gtbl := gm (tm3 119 rfl) rfl
theorem wk_3_120 : Cond.methodLink RL 108 yX6_group ∈ gtbl := gm (tm3 120 rfl) rfl
theorem wk_3_121 : Cond.instanceMethod yX6_group ∈ gtbl := gm (tm3 121 rfl) rfl
theorem wk_3_122 : Cond.selects RX6 yX6_group yX6_group ∈ gtbl := gm (tm3 122 rfl) rfl
theorem wk_3_123 : Cond.code yX6_group cX6_group 6 (some .long) ∈ gtbl := gm (tm3 123 rfl) rfl
theorem wk_3_124 : Cond.methodLinkNest RX6 209 yX1_isShown RX6 ∈ nestW := nm (tm3 124 rfl) rfl
theorem wk_3_126 : Cond.instanceMethod yX1_isShown ∈ gtbl := gm (tm3 126 rfl) rfl
theorem wk_3_127 : Cond.code yX1_isShown cX1_isShown 2 (some .boolean) ∈ gtbl := gm (tm3 127 rfl) rfl
theorem wk_3_128 : Cond.methodLink RX1 167 yX1_menOfMonth ∈ gtbl := gm (tm3 128 rfl) rfl
theorem wk_3_130 : Cond.instanceMethod yX1_menOfMonth ∈ gtbl := gm (tm3 130 rfl) rfl
theorem wk_3_131 : Cond.code yX1_menOfMonth cX1_menOfMonth 4 (some .int) ∈ gtbl := gm (tm3 131 rfl) rfl
theorem wk_3_132 : Cond.methodLinkNest RX1 164 yX6_monthOf RX6 ∈ nestW := nm (tm3 132 rfl) rfl
theorem wk_3_133 : Cond.static yX6_monthOf ∈ gtbl := gm (tm3 133 rfl) rfl
theorem wk_3_134 : Cond.code yX6_monthOf cX6_monthOf 2 (some .int) ∈ gtbl := gm (tm3 134 rfl) rfl
theorem wk_3_135 : Cond.constantLong RX6 212 (-9 : Int64) ∈ gtbl := gm (tm3 135 rfl) rfl
theorem wk_3_136 : Cond.methodLinkNest RX6 214 yX1_findGroup RX6 ∈ nestW := nm (tm3 136 rfl) rfl
theorem wk_3_138 : Cond.instanceMethod yX1_findGroup ∈ gtbl := gm (tm3 138 rfl) rfl
theorem wk_3_139 : Cond.code yX1_findGroup cX1_findGroup 8 none ∈ gtbl := gm (tm3 139 rfl) rfl
theorem wk_3_140 : Cond.methodLink RL 113 yX6_least ∈ gtbl := gm (tm3 140 rfl) rfl
theorem wk_3_141 : Cond.instanceMethod yX6_least ∈ gtbl := gm (tm3 141 rfl) rfl
theorem wk_3_142 : Cond.selects RX6 yX6_least yX6_least ∈ gtbl := gm (tm3 142 rfl) rfl
theorem wk_3_143 : Cond.code yX6_least cX6_least 4 (some .int) ∈ gtbl := gm (tm3 143 rfl) rfl
theorem wk_3_144 : Cond.methodLink RL 117 yX6_shown ∈ gtbl := gm (tm3 144 rfl) rfl
theorem wk_3_145 : Cond.instanceMethod yX6_shown ∈ gtbl := gm (tm3 145 rfl) rfl
theorem wk_3_146 : Cond.selects RX6 yX6_shown yX6_shown ∈ gtbl := gm (tm3 146 rfl) rfl
theorem wk_3_147 : Cond.code yX6_shown cX6_shown 3 (some .int) ∈ gtbl := gm (tm3 147 rfl) rfl
theorem wk_3_148 : Cond.methodLink RL 121 yX6_moved ∈ gtbl := gm (tm3 148 rfl) rfl
theorem wk_3_149 : Cond.instanceMethod yX6_moved ∈ gtbl := gm (tm3 149 rfl) rfl
theorem wk_3_150 : Cond.selects RX6 yX6_moved yX6_moved ∈ gtbl := gm (tm3 150 rfl) rfl
theorem wk_3_151 : Cond.code yX6_moved cX6_moved 3 (some .int) ∈ gtbl := gm (tm3 151 rfl) rfl
theorem wk_3_152 : Cond.methodLink RL 125 yX6_cuts ∈ gtbl := gm (tm3 152 rfl) rfl
theorem wk_3_153 : Cond.instanceMethod yX6_cuts ∈ gtbl := gm (tm3 153 rfl) rfl
theorem wk_3_154 : Cond.selects RX6 yX6_cuts yX6_cuts ∈ gtbl := gm (tm3 154 rfl) rfl
theorem wk_3_155 : Cond.code yX6_cuts cX6_cuts 4 (some .int) ∈ gtbl := gm (tm3 155 rfl) rfl
theorem wk_3_156 : Cond.methodLinkNest RX6 221 yX1_leastCutFor RX6 ∈ nestW := nm (tm3 156 rfl) rfl
theorem wk_3_158 : Cond.instanceMethod yX1_leastCutFor ∈ gtbl := gm (tm3 158 rfl) rfl
theorem wk_3_159 : Cond.code yX1_leastCutFor cX1_leastCutFor 7 (some .int) ∈ gtbl := gm (tm3 159 rfl) rfl
theorem wk_3_160 : Cond.methodLink RX1 170 yX1_menWithNumberUpTo ∈ gtbl := gm (tm3 160 rfl) rfl
theorem wk_3_162 : Cond.instanceMethod yX1_menWithNumberUpTo ∈ gtbl := gm (tm3 162 rfl) rfl
theorem wk_3_163 : Cond.code yX1_menWithNumberUpTo cX1_menWithNumberUpTo 5 (some .int) ∈ gtbl := gm (tm3 163 rfl) rfl
theorem wk_3_164 : Cond.methodLink RL 129 yX6_image ∈ gtbl := gm (tm3 164 rfl) rfl
theorem wk_3_165 : Cond.instanceMethod yX6_image ∈ gtbl := gm (tm3 165 rfl) rfl
theorem wk_3_166 : Cond.selects RX6 yX6_image yX6_image ∈ gtbl := gm (tm3 166 rfl) rfl
theorem wk_3_167 : Cond.code yX6_image cX6_image 1 (some .int) ∈ gtbl := gm (tm3 167 rfl) rfl
theorem wk_3_168 : Cond.methodLinkNest RX6 224 yX1_copyLottery RX6 ∈ nestW := nm (tm3 168 rfl) rfl
theorem wk_3_170 : Cond.instanceMethod yX1_copyLottery ∈ gtbl := gm (tm3 170 rfl) rfl
theorem wk_3_171 : Cond.code yX1_copyLottery cX1_copyLottery 2 none ∈ gtbl := gm (tm3 171 rfl) rfl
theorem wk_3_172 : Cond.methodLinkNest RX1 61 yX0_copyJar RX6 ∈ nestW := nm (tm3 172 rfl) rfl
theorem wk_3_174 : Cond.instanceMethod yX0_copyJar ∈ gtbl := gm (tm3 174 rfl) rfl
theorem wk_3_175 : Cond.code yX0_copyJar cX0_copyJar 2 none ∈ gtbl := gm (tm3 175 rfl) rfl
theorem wk_3_176 : Cond.methodLinkNest RX0 48 yX6_copyRow RX6 ∈ nestW := nm (tm3 176 rfl) rfl
theorem wk_3_177 : Cond.static yX6_copyRow ∈ gtbl := gm (tm3 177 rfl) rfl
theorem wk_3_178 : Cond.code yX6_copyRow cX6_copyRow 2 none ∈ gtbl := gm (tm3 178 rfl) rfl
theorem wk_3_179 : Cond.methodLink RX6 234 yJ9_min_7cf53 ∈ gtbl := gm (tm3 179 rfl) rfl
theorem wk_3_180 : Cond.methodLink RX6 240 arraycopyName ∈ gtbl := gm (tm3 180 rfl) rfl
theorem wk_3_181 : Cond.methodLinkNest RX1 65 yX2_copyMen RX6 ∈ nestW := nm (tm3 181 rfl) rfl
theorem wk_3_183 : Cond.instanceMethod yX2_copyMen ∈ gtbl := gm (tm3 183 rfl) rfl
theorem wk_3_184 : Cond.code yX2_copyMen cX2_copyMen 2 none ∈ gtbl := gm (tm3 184 rfl) rfl
theorem wk_3_185 : Cond.methodLinkNest RX2 29 yX6_copyRow RX6 ∈ nestW := nm (tm3 185 rfl) rfl
theorem wk_3_186 : Cond.methodLinkNest RX1 69 yX6_copyRow RX6 ∈ nestW := nm (tm3 186 rfl) rfl
theorem wk_3_187 : Cond.methodLink RL 133 yX6_on ∈ gtbl := gm (tm3 187 rfl) rfl
theorem wk_3_188 : Cond.instanceMethod yX6_on ∈ gtbl := gm (tm3 188 rfl) rfl
theorem wk_3_189 : Cond.selects RX6 yX6_on yX6_on ∈ gtbl := gm (tm3 189 rfl) rfl
theorem wk_3_190 : Cond.code yX6_on cX6_on 1 (some .int) ∈ gtbl := gm (tm3 190 rfl) rfl
theorem wk_3_191 : Cond.methodLink RL 137 yX6_count ∈ gtbl := gm (tm3 191 rfl) rfl
theorem wk_3_192 : Cond.instanceMethod yX6_count ∈ gtbl := gm (tm3 192 rfl) rfl
theorem wk_3_193 : Cond.selects RX6 yX6_count yX6_count ∈ gtbl := gm (tm3 193 rfl) rfl
theorem wk_3_194 : Cond.code yX6_count cX6_count 2 (some .int) ∈ gtbl := gm (tm3 194 rfl) rfl
theorem wk_3_195 : Cond.methodLinkNest RX6 228 yX1_menWhoServed RX6 ∈ nestW := nm (tm3 195 rfl) rfl
theorem wk_3_197 : Cond.instanceMethod yX1_menWhoServed ∈ gtbl := gm (tm3 197 rfl) rfl
theorem wk_3_198 : Cond.code yX1_menWhoServed cX1_menWhoServed 4 (some .int) ∈ gtbl := gm (tm3 198 rfl) rfl
theorem wk_3_199 : Cond.classLink RL 10 RX7 ∈ gtbl := gm (tm3 199 rfl) rfl
theorem wk_3_200 : Cond.instantiable RX7 28 ∈ gtbl := gm (tm3 200 rfl) rfl
theorem wk_3_201 : Cond.methodLink RL 12 yX7_init ∈ gtbl := gm (tm3 201 rfl) rfl
theorem wk_3_202 : Cond.instanceMethod yX7_init ∈ gtbl := gm (tm3 202 rfl) rfl
theorem wk_3_203 : Cond.code yX7_init cX7_init 1 none ∈ gtbl := gm (tm3 203 rfl) rfl
theorem wk_3_204 : Cond.methodLink RX7 1 objectInit ∈ gtbl := gm (tm3 204 rfl) rfl
theorem wk_3_205 : Cond.fieldLink RX7 7 "GlassJarModel" "refused" "[I" ∈ gtbl := gm (tm3 205 rfl) rfl
theorem wk_3_206 : Cond.fieldLink RX7 13 "GlassJarModel" "seed" "[I" ∈ gtbl := gm (tm3 206 rfl) rfl
theorem wk_3_207 : Cond.fieldLink RX7 16 "GlassJarModel" "shakes" "[I" ∈ gtbl := gm (tm3 207 rfl) rfl
theorem wk_3_208 : Cond.fieldLink RX7 19 "GlassJarModel" "spread" "[I" ∈ gtbl := gm (tm3 208 rfl) rfl
theorem wk_3_209 : Cond.fieldLink RX7 22 "GlassJarModel" "depth" "[I" ∈ gtbl := gm (tm3 209 rfl) rfl
theorem wk_3_210 : Cond.fieldLink RX7 25 "GlassJarModel" "poured" "[I" ∈ gtbl := gm (tm3 210 rfl) rfl
theorem wk_3_211 : Cond.fieldLink RX7 28 "GlassJarModel" "numbers" "[I" ∈ gtbl := gm (tm3 211 rfl) rfl
theorem wk_3_212 : Cond.fieldLink RX7 31 "GlassJarModel" "row" "[I" ∈ gtbl := gm (tm3 212 rfl) rfl
theorem wk_3_213 : Cond.fieldLink RX7 34 "GlassJarModel" "days" "[I" ∈ gtbl := gm (tm3 213 rfl) rfl
theorem wk_3_214 : Cond.fieldLink RX7 37 "GlassJarModel" "isDrawn" "[Z" ∈ gtbl := gm (tm3 214 rfl) rfl
theorem wk_3_215 : Cond.fieldLink RX7 71 "GlassJarModel" "lots" "I" ∈ gtbl := gm (tm3 215 rfl) rfl
theorem wk_3_216 : Cond.fieldLink RX7 111 "GlassJarModel" "up" "J" ∈ gtbl := gm (tm3 216 rfl) rfl
theorem wk_3_217 : Cond.fieldLink RX7 115 "GlassJarModel" "down" "J" ∈ gtbl := gm (tm3 217 rfl) rfl
theorem wk_3_218 : Cond.fieldLink RX7 41 "GlassJarModel" "tape" "[I" ∈ gtbl := gm (tm3 218 rfl) rfl
theorem wk_3_219 : Cond.fieldLink RX7 44 "GlassJarModel" "kind" "[I" ∈ gtbl := gm (tm3 219 rfl) rfl
theorem wk_3_220 : Cond.fieldLink RX7 47 "GlassJarModel" "born" "[I" ∈ gtbl := gm (tm3 220 rfl) rfl
theorem wk_3_221 : Cond.fieldLink RX7 50 "GlassJarModel" "pay" "[I" ∈ gtbl := gm (tm3 221 rfl) rfl
theorem wk_3_222 : Cond.fieldLink RX7 53 "GlassJarModel" "law" "[I" ∈ gtbl := gm (tm3 222 rfl) rfl
theorem wk_3_223 : Cond.fieldLink RX7 56 "GlassJarModel" "top" "[I" ∈ gtbl := gm (tm3 223 rfl) rfl
theorem wk_3_224 : Cond.fieldLink RX7 148 "GlassJarModel" "taped" "I" ∈ gtbl := gm (tm3 224 rfl) rfl
theorem wk_3_225 : Cond.fieldLink RX7 153 "GlassJarModel" "at" "I" ∈ gtbl := gm (tm3 225 rfl) rfl
theorem wk_3_226 : Cond.fieldLink RX7 163 "GlassJarModel" "men" "I" ∈ gtbl := gm (tm3 226 rfl) rfl
theorem wk_3_227 : Cond.fieldLink RX7 59 "GlassJarModel" "cut" "I" ∈ gtbl := gm (tm3 227 rfl) rfl
theorem wk_3_228 : Cond.fieldLink RX7 63 "GlassJarModel" "least" "I" ∈ gtbl := gm (tm3 228 rfl) rfl
theorem wk_3_229 : Cond.fieldLink RX7 66 "GlassJarModel" "kept" "[I" ∈ gtbl := gm (tm3 229 rfl) rfl
theorem wk_3_230 : Cond.fieldLink RX7 221 "GlassJarModel" "hasImage" "Z" ∈ gtbl := gm (tm3 230 rfl) rfl
theorem wk_3_231 : Cond.fieldLink RX7 207 "GlassJarModel" "isKeeping" "Z" ∈ gtbl := gm (tm3 231 rfl) rfl
theorem wk_3_232 : Cond.fieldLink RX7 211 "GlassJarModel" "cursor" "I" ∈ gtbl := gm (tm3 232 rfl) rfl
theorem wk_3_233 : Cond.laysFinal RX7 "GlassJarModel" "refused" "[I" ∈ gtbl := gm (tm3 233 rfl) rfl
theorem wk_3_235 : Cond.laysFinal RX7 "GlassJarModel" "seed" "[I" ∈ gtbl := gm (tm3 235 rfl) rfl
theorem wk_3_237 : Cond.laysFinal RX7 "GlassJarModel" "shakes" "[I" ∈ gtbl := gm (tm3 237 rfl) rfl
theorem wk_3_239 : Cond.laysFinal RX7 "GlassJarModel" "spread" "[I" ∈ gtbl := gm (tm3 239 rfl) rfl
theorem wk_4_1 : Cond.laysFinal RX7 "GlassJarModel" "depth" "[I" ∈ gtbl := gm (tm4 1 rfl) rfl
theorem wk_4_3 : Cond.laysFinal RX7 "GlassJarModel" "poured" "[I" ∈ gtbl := gm (tm4 3 rfl) rfl
theorem wk_4_5 : Cond.laysFinal RX7 "GlassJarModel" "numbers" "[I" ∈ gtbl := gm (tm4 5 rfl) rfl
theorem wk_4_7 : Cond.laysFinal RX7 "GlassJarModel" "row" "[I" ∈ gtbl := gm (tm4 7 rfl) rfl
theorem wk_4_9 : Cond.laysFinal RX7 "GlassJarModel" "days" "[I" ∈ gtbl := gm (tm4 9 rfl) rfl
theorem wk_4_11 : Cond.laysFinal RX7 "GlassJarModel" "isDrawn" "[Z" ∈ gtbl := gm (tm4 11 rfl) rfl
theorem wk_4_13 : Cond.lays RX7 "GlassJarModel" "lots" "I" ∈ gtbl := gm (tm4 13 rfl) rfl
theorem wk_4_15 : Cond.lays RX7 "GlassJarModel" "up" "J" ∈ gtbl := gm (tm4 15 rfl) rfl
theorem wk_4_17 : Cond.lays RX7 "GlassJarModel" "down" "J" ∈ gtbl := gm (tm4 17 rfl) rfl
theorem wk_4_19 : Cond.laysFinal RX7 "GlassJarModel" "tape" "[I" ∈ gtbl := gm (tm4 19 rfl) rfl
theorem wk_4_21 : Cond.laysFinal RX7 "GlassJarModel" "kind" "[I" ∈ gtbl := gm (tm4 21 rfl) rfl
theorem wk_4_23 : Cond.laysFinal RX7 "GlassJarModel" "born" "[I" ∈ gtbl := gm (tm4 23 rfl) rfl
theorem wk_4_25 : Cond.laysFinal RX7 "GlassJarModel" "pay" "[I" ∈ gtbl := gm (tm4 25 rfl) rfl
theorem wk_4_27 : Cond.laysFinal RX7 "GlassJarModel" "law" "[I" ∈ gtbl := gm (tm4 27 rfl) rfl
theorem wk_4_29 : Cond.laysFinal RX7 "GlassJarModel" "top" "[I" ∈ gtbl := gm (tm4 29 rfl) rfl
theorem wk_4_31 : Cond.lays RX7 "GlassJarModel" "taped" "I" ∈ gtbl := gm (tm4 31 rfl) rfl
theorem wk_4_33 : Cond.lays RX7 "GlassJarModel" "at" "I" ∈ gtbl := gm (tm4 33 rfl) rfl
theorem wk_4_35 : Cond.lays RX7 "GlassJarModel" "men" "I" ∈ gtbl := gm (tm4 35 rfl) rfl
theorem wk_4_37 : Cond.lays RX7 "GlassJarModel" "cut" "I" ∈ gtbl := gm (tm4 37 rfl) rfl
theorem wk_4_39 : Cond.lays RX7 "GlassJarModel" "least" "I" ∈ gtbl := gm (tm4 39 rfl) rfl
theorem wk_4_41 : Cond.laysFinal RX7 "GlassJarModel" "kept" "[I" ∈ gtbl := gm (tm4 41 rfl) rfl
theorem wk_4_43 : Cond.lays RX7 "GlassJarModel" "hasImage" "Z" ∈ gtbl := gm (tm4 43 rfl) rfl
theorem wk_4_45 : Cond.lays RX7 "GlassJarModel" "isKeeping" "Z" ∈ gtbl := gm (tm4 45 rfl) rfl
theorem wk_4_47 : Cond.lays RX7 "GlassJarModel" "cursor" "I" ∈ gtbl := gm (tm4 47 rfl) rfl
theorem wk_4_50 : Cond.arrayClass .boolean ∈ gtbl := gm (tm4 50 rfl) rfl
theorem wk_4_51 : Cond.methodLink RL 29 yX7_jar ∈ gtbl := gm (tm4 51 rfl) rfl
theorem wk_4_52 : Cond.instanceMethod yX7_jar ∈ gtbl := gm (tm4 52 rfl) rfl
theorem wk_4_53 : Cond.selects RX7 yX7_jar yX7_jar ∈ gtbl := gm (tm4 53 rfl) rfl
theorem wk_4_54 : Cond.code yX7_jar cX7_jar 7 (some .int) ∈ gtbl := gm (tm4 54 rfl) rfl
theorem wk_4_55 : Cond.methodLink RX7 77 yX7_isJar ∈ gtbl := gm (tm4 55 rfl) rfl
theorem wk_4_56 : Cond.static yX7_isJar ∈ gtbl := gm (tm4 56 rfl) rfl
theorem wk_4_57 : Cond.code yX7_isJar cX7_isJar 1 (some .boolean) ∈ gtbl := gm (tm4 57 rfl) rfl
theorem wk_4_58 : Cond.methodLink RX7 81 yX7_no ∈ gtbl := gm (tm4 58 rfl) rfl
theorem wk_4_60 : Cond.instanceMethod yX7_no ∈ gtbl := gm (tm4 60 rfl) rfl
theorem wk_4_61 : Cond.code yX7_no cX7_no 2 (some .int) ∈ gtbl := gm (tm4 61 rfl) rfl
theorem wk_4_62 : Cond.methodLink RL 34 yX7_pour ∈ gtbl := gm (tm4 62 rfl) rfl
theorem wk_4_63 : Cond.instanceMethod yX7_pour ∈ gtbl := gm (tm4 63 rfl) rfl
theorem wk_4_64 : Cond.selects RX7 yX7_pour yX7_pour ∈ gtbl := gm (tm4 64 rfl) rfl
theorem wk_4_65 : Cond.code yX7_pour cX7_pour 3 (some .int) ∈ gtbl := gm (tm4 65 rfl) rfl
theorem wk_4_66 : Cond.methodLink RL 39 yX7_number ∈ gtbl := gm (tm4 66 rfl) rfl
theorem wk_4_67 : Cond.instanceMethod yX7_number ∈ gtbl := gm (tm4 67 rfl) rfl
theorem wk_4_68 : Cond.selects RX7 yX7_number yX7_number ∈ gtbl := gm (tm4 68 rfl) rfl
theorem wk_4_69 : Cond.code yX7_number cX7_number 3 (some .int) ∈ gtbl := gm (tm4 69 rfl) rfl
theorem wk_4_70 : Cond.methodLink RX7 96 yX7_isIn ∈ gtbl := gm (tm4 70 rfl) rfl
theorem wk_4_71 : Cond.static yX7_isIn ∈ gtbl := gm (tm4 71 rfl) rfl
theorem wk_4_72 : Cond.code yX7_isIn cX7_isIn 3 (some .boolean) ∈ gtbl := gm (tm4 72 rfl) rfl
theorem wk_4_73 : Cond.methodLink RX7 100 yX7_numberOf ∈ gtbl := gm (tm4 73 rfl) rfl
theorem wk_4_75 : Cond.instanceMethod yX7_numberOf ∈ gtbl := gm (tm4 75 rfl) rfl
theorem wk_4_76 : Cond.code yX7_numberOf cX7_numberOf 3 (some .int) ∈ gtbl := gm (tm4 76 rfl) rfl
theorem wk_4_77 : Cond.methodLink RX7 92 yX7_draws ∈ gtbl := gm (tm4 77 rfl) rfl
theorem wk_4_79 : Cond.instanceMethod yX7_draws ∈ gtbl := gm (tm4 79 rfl) rfl
theorem wk_4_80 : Cond.code yX7_draws cX7_draws 6 none ∈ gtbl := gm (tm4 80 rfl) rfl
theorem wk_4_81 : Cond.methodLink RX7 85 yX7_lot ∈ gtbl := gm (tm4 81 rfl) rfl
theorem wk_4_83 : Cond.instanceMethod yX7_lot ∈ gtbl := gm (tm4 83 rfl) rfl
theorem wk_4_84 : Cond.code yX7_lot cX7_lot 2 (some .int) ∈ gtbl := gm (tm4 84 rfl) rfl
theorem wk_4_85 : Cond.constant RX7 74 (1664525 : Int32) ∈ gtbl := gm (tm4 85 rfl) rfl
theorem wk_4_86 : Cond.constant RX7 75 (1013904223 : Int32) ∈ gtbl := gm (tm4 86 rfl) rfl
theorem wk_4_87 : Cond.constant RX7 76 (2147483647 : Int32) ∈ gtbl := gm (tm4 87 rfl) rfl
theorem wk_4_88 : Cond.methodLink RX7 88 yX7_changes ∈ gtbl := gm (tm4 88 rfl) rfl
theorem wk_4_90 : Cond.instanceMethod yX7_changes ∈ gtbl := gm (tm4 90 rfl) rfl
theorem wk_4_91 : Cond.code yX7_changes cX7_changes 4 none ∈ gtbl := gm (tm4 91 rfl) rfl
theorem wk_4_92 : Cond.methodLink RL 43 yX7_dayOf ∈ gtbl := gm (tm4 92 rfl) rfl
theorem wk_4_93 : Cond.instanceMethod yX7_dayOf ∈ gtbl := gm (tm4 93 rfl) rfl
theorem wk_4_94 : Cond.selects RX7 yX7_dayOf yX7_dayOf ∈ gtbl := gm (tm4 94 rfl) rfl
theorem wk_4_95 : Cond.code yX7_dayOf cX7_dayOf 6 (some .int) ∈ gtbl := gm (tm4 95 rfl) rfl
theorem wk_4_96 : Cond.methodLink RX7 104 yX7_out ∈ gtbl := gm (tm4 96 rfl) rfl
theorem wk_4_97 : Cond.static yX7_out ∈ gtbl := gm (tm4 97 rfl) rfl
theorem wk_4_98 : Cond.code yX7_out cX7_out 3 (some .int) ∈ gtbl := gm (tm4 98 rfl) rfl
theorem wk_4_99 : Cond.methodLink RL 48 yX7_mean ∈ gtbl := gm (tm4 99 rfl) rfl
theorem wk_4_100 : Cond.instanceMethod yX7_mean ∈ gtbl := gm (tm4 100 rfl) rfl
theorem wk_4_101 : Cond.selects RX7 yX7_mean yX7_mean ∈ gtbl := gm (tm4 101 rfl) rfl
theorem wk_4_102 : Cond.code yX7_mean cX7_mean 4 (some .long) ∈ gtbl := gm (tm4 102 rfl) rfl
theorem wk_4_103 : Cond.methodLink RX7 118 yX7_isMonth ∈ gtbl := gm (tm4 103 rfl) rfl
theorem wk_4_104 : Cond.static yX7_isMonth ∈ gtbl := gm (tm4 104 rfl) rfl
theorem wk_4_105 : Cond.code yX7_isMonth cX7_isMonth 1 (some .boolean) ∈ gtbl := gm (tm4 105 rfl) rfl
theorem wk_4_106 : Cond.methodLink RX7 121 yX7_noLong ∈ gtbl := gm (tm4 106 rfl) rfl
theorem wk_4_108 : Cond.instanceMethod yX7_noLong ∈ gtbl := gm (tm4 108 rfl) rfl
theorem wk_4_109 : Cond.code yX7_noLong cX7_noLong 2 (some .long) ∈ gtbl := gm (tm4 109 rfl) rfl
theorem wk_4_110 : Cond.constantLong RX7 69 (4000000000000000000 : Int64) ∈ gtbl := gm (tm4 110 rfl) rfl
theorem wk_4_111 : Cond.methodLink RX7 125 yX7_isPart ∈ gtbl := gm (tm4 111 rfl) rfl
theorem wk_4_112 : Cond.static yX7_isPart ∈ gtbl := gm (tm4 112 rfl) rfl
theorem wk_4_113 : Cond.code yX7_isPart cX7_isPart 1 (some .boolean) ∈ gtbl := gm (tm4 113 rfl) rfl
theorem wk_4_114 : Cond.methodLink RX7 128 yX7_sumOf ∈ gtbl := gm (tm4 114 rfl) rfl
theorem wk_4_116 : Cond.instanceMethod yX7_sumOf ∈ gtbl := gm (tm4 116 rfl) rfl
theorem wk_4_117 : Cond.code yX7_sumOf cX7_sumOf 6 (some .long) ∈ gtbl := gm (tm4 117 rfl) rfl
theorem wk_4_118 : Cond.methodLink RX7 108 yX7_firstOf ∈ gtbl := gm (tm4 118 rfl) rfl
theorem wk_4_120 : Cond.instanceMethod yX7_firstOf ∈ gtbl := gm (tm4 120 rfl) rfl
theorem wk_4_121 : Cond.code yX7_firstOf cX7_firstOf 4 (some .int) ∈ gtbl := gm (tm4 121 rfl) rfl
theorem wk_4_122 : Cond.methodLink RX7 132 yX7_lessens ∈ gtbl := gm (tm4 122 rfl) rfl
theorem wk_4_124 : Cond.instanceMethod yX7_lessens ∈ gtbl := gm (tm4 124 rfl) rfl
theorem wk_4_125 : Cond.code yX7_lessens cX7_lessens 11 none ∈ gtbl := gm (tm4 125 rfl) rfl
theorem wk_4_126 : Cond.methodLink RX7 136 yX7_told ∈ gtbl := gm (tm4 126 rfl) rfl
theorem wk_4_128 : Cond.instanceMethod yX7_told ∈ gtbl := gm (tm4 128 rfl) rfl
theorem wk_4_129 : Cond.code yX7_told cX7_told 2 (some .long) ∈ gtbl := gm (tm4 129 rfl) rfl
theorem wk_4_130 : Cond.methodLink RL 53 yX7_lean ∈ gtbl := gm (tm4 130 rfl) rfl
theorem wk_4_131 : Cond.instanceMethod yX7_lean ∈ gtbl := gm (tm4 131 rfl) rfl
theorem wk_4_132 : Cond.selects RX7 yX7_lean yX7_lean ∈ gtbl := gm (tm4 132 rfl) rfl
theorem wk_4_133 : Cond.code yX7_lean cX7_lean 5 (some .long) ∈ gtbl := gm (tm4 133 rfl) rfl
theorem wk_4_134 : Cond.constantLong RX7 139 (2 : Int64) ∈ gtbl := gm (tm4 134 rfl) rfl
theorem wk_4_135 : Cond.constantLong RX7 141 (365 : Int64) ∈ gtbl := gm (tm4 135 rfl) rfl
theorem wk_4_136 : Cond.constantLong RX7 143 (367 : Int64) ∈ gtbl := gm (tm4 136 rfl) rfl
theorem wk_4_137 : Cond.methodLink RL 58 yX7_worst ∈ gtbl := gm (tm4 137 rfl) rfl
theorem wk_4_138 : Cond.instanceMethod yX7_worst ∈ gtbl := gm (tm4 138 rfl) rfl
theorem wk_4_139 : Cond.selects RX7 yX7_worst yX7_worst ∈ gtbl := gm (tm4 139 rfl) rfl
theorem wk_4_140 : Cond.code yX7_worst cX7_worst 4 (some .int) ∈ gtbl := gm (tm4 140 rfl) rfl
theorem wk_4_141 : Cond.methodLink RX7 145 yX7_offOf ∈ gtbl := gm (tm4 141 rfl) rfl
theorem wk_4_143 : Cond.instanceMethod yX7_offOf ∈ gtbl := gm (tm4 143 rfl) rfl
theorem wk_4_144 : Cond.code yX7_offOf cX7_offOf 5 (some .long) ∈ gtbl := gm (tm4 144 rfl) rfl
theorem wk_4_145 : Cond.methodLink RL 62 yX7_turned ∈ gtbl := gm (tm4 145 rfl) rfl
theorem wk_4_146 : Cond.instanceMethod yX7_turned ∈ gtbl := gm (tm4 146 rfl) rfl
theorem wk_4_147 : Cond.selects RX7 yX7_turned yX7_turned ∈ gtbl := gm (tm4 147 rfl) rfl
theorem wk_4_148 : Cond.code yX7_turned cX7_turned 5 (some .int) ∈ gtbl := gm (tm4 148 rfl) rfl
theorem wk_4_149 : Cond.methodLink RL 19 yX7_feed ∈ gtbl := gm (tm4 149 rfl) rfl
theorem wk_4_150 : Cond.instanceMethod yX7_feed ∈ gtbl := gm (tm4 150 rfl) rfl
theorem wk_4_151 : Cond.selects RX7 yX7_feed yX7_feed ∈ gtbl := gm (tm4 151 rfl) rfl
theorem wk_4_152 : Cond.code yX7_feed cX7_feed 6 (some .int) ∈ gtbl := gm (tm4 152 rfl) rfl
theorem wk_4_153 : Cond.constantLong RX7 151 (255 : Int64) ∈ gtbl := gm (tm4 153 rfl) rfl
theorem wk_4_154 : Cond.methodLink RL 24 yX7_man ∈ gtbl := gm (tm4 154 rfl) rfl
theorem wk_4_155 : Cond.instanceMethod yX7_man ∈ gtbl := gm (tm4 155 rfl) rfl
theorem wk_4_156 : Cond.selects RX7 yX7_man yX7_man ∈ gtbl := gm (tm4 156 rfl) rfl
theorem wk_4_157 : Cond.code yX7_man cX7_man 2 (some .int) ∈ gtbl := gm (tm4 157 rfl) rfl
theorem wk_4_158 : Cond.methodLink RX7 166 yX7_reads ∈ gtbl := gm (tm4 158 rfl) rfl
theorem wk_4_160 : Cond.instanceMethod yX7_reads ∈ gtbl := gm (tm4 160 rfl) rfl
theorem wk_4_161 : Cond.code yX7_reads cX7_reads 6 (some .boolean) ∈ gtbl := gm (tm4 161 rfl) rfl
theorem wk_4_162 : Cond.methodLink RX7 156 yX7_sign ∈ gtbl := gm (tm4 162 rfl) rfl
theorem wk_4_164 : Cond.instanceMethod yX7_sign ∈ gtbl := gm (tm4 164 rfl) rfl
theorem wk_4_165 : Cond.code yX7_sign cX7_sign 1 (some .int) ∈ gtbl := gm (tm4 165 rfl) rfl
theorem wk_4_166 : Cond.methodLink RX7 160 yX7_number_ ∈ gtbl := gm (tm4 166 rfl) rfl
theorem wk_4_168 : Cond.instanceMethod yX7_number_ ∈ gtbl := gm (tm4 168 rfl) rfl
theorem wk_4_169 : Cond.code yX7_number_ cX7_number_ 4 (some .int) ∈ gtbl := gm (tm4 169 rfl) rfl
theorem wk_4_170 : Cond.methodLink RL 66 yX7_manOf ∈ gtbl := gm (tm4 170 rfl) rfl
theorem wk_4_171 : Cond.instanceMethod yX7_manOf ∈ gtbl := gm (tm4 171 rfl) rfl
theorem wk_4_172 : Cond.selects RX7 yX7_manOf yX7_manOf ∈ gtbl := gm (tm4 172 rfl) rfl
theorem wk_4_173 : Cond.code yX7_manOf cX7_manOf 3 (some .int) ∈ gtbl := gm (tm4 173 rfl) rfl
theorem wk_4_174 : Cond.methodLink RX7 170 yX7_isMan ∈ gtbl := gm (tm4 174 rfl) rfl
theorem wk_4_176 : Cond.instanceMethod yX7_isMan ∈ gtbl := gm (tm4 176 rfl) rfl
theorem wk_4_177 : Cond.code yX7_isMan cX7_isMan 2 (some .boolean) ∈ gtbl := gm (tm4 177 rfl) rfl
theorem wk_4_178 : Cond.methodLink RL 70 yX7_cut ∈ gtbl := gm (tm4 178 rfl) rfl
theorem wk_4_179 : Cond.instanceMethod yX7_cut ∈ gtbl := gm (tm4 179 rfl) rfl
theorem wk_4_180 : Cond.selects RX7 yX7_cut yX7_cut ∈ gtbl := gm (tm4 180 rfl) rfl
theorem wk_4_181 : Cond.code yX7_cut cX7_cut 4 (some .int) ∈ gtbl := gm (tm4 181 rfl) rfl
theorem wk_4_182 : Cond.methodLink RL 74 yX7_law ∈ gtbl := gm (tm4 182 rfl) rfl
theorem wk_4_183 : Cond.instanceMethod yX7_law ∈ gtbl := gm (tm4 183 rfl) rfl
theorem wk_4_184 : Cond.selects RX7 yX7_law yX7_law ∈ gtbl := gm (tm4 184 rfl) rfl
theorem wk_4_185 : Cond.code yX7_law cX7_law 5 (some .int) ∈ gtbl := gm (tm4 185 rfl) rfl
theorem wk_4_186 : Cond.methodLink RL 78 yX7_called ∈ gtbl := gm (tm4 186 rfl) rfl
theorem wk_4_187 : Cond.instanceMethod yX7_called ∈ gtbl := gm (tm4 187 rfl) rfl
theorem wk_4_188 : Cond.selects RX7 yX7_called yX7_called ∈ gtbl := gm (tm4 188 rfl) rfl
theorem wk_4_189 : Cond.code yX7_called cX7_called 3 (some .int) ∈ gtbl := gm (tm4 189 rfl) rfl
theorem wk_4_190 : Cond.methodLink RX7 173 yX7_isCalled ∈ gtbl := gm (tm4 190 rfl) rfl
theorem wk_4_192 : Cond.instanceMethod yX7_isCalled ∈ gtbl := gm (tm4 192 rfl) rfl
theorem wk_4_193 : Cond.code yX7_isCalled cX7_isCalled 3 (some .boolean) ∈ gtbl := gm (tm4 193 rfl) rfl
theorem wk_4_194 : Cond.methodLink RL 82 yX7_served ∈ gtbl := gm (tm4 194 rfl) rfl
theorem wk_4_195 : Cond.instanceMethod yX7_served ∈ gtbl := gm (tm4 195 rfl) rfl
theorem wk_4_196 : Cond.selects RX7 yX7_served yX7_served ∈ gtbl := gm (tm4 196 rfl) rfl
theorem wk_4_197 : Cond.code yX7_served cX7_served 3 (some .int) ∈ gtbl := gm (tm4 197 rfl) rfl
theorem wk_4_198 : Cond.methodLink RX7 177 yX7_servedAs ∈ gtbl := gm (tm4 198 rfl) rfl
theorem wk_4_200 : Cond.instanceMethod yX7_servedAs ∈ gtbl := gm (tm4 200 rfl) rfl
theorem wk_4_201 : Cond.code yX7_servedAs cX7_servedAs 4 (some .int) ∈ gtbl := gm (tm4 201 rfl) rfl
theorem wk_4_202 : Cond.methodLink RL 86 yX7_wage ∈ gtbl := gm (tm4 202 rfl) rfl
theorem wk_4_203 : Cond.instanceMethod yX7_wage ∈ gtbl := gm (tm4 203 rfl) rfl
theorem wk_4_204 : Cond.selects RX7 yX7_wage yX7_wage ∈ gtbl := gm (tm4 204 rfl) rfl
theorem wk_4_205 : Cond.code yX7_wage cX7_wage 5 (some .long) ∈ gtbl := gm (tm4 205 rfl) rfl
theorem wk_4_206 : Cond.methodLink RX7 183 yX7_notYear ∈ gtbl := gm (tm4 206 rfl) rfl
theorem wk_4_207 : Cond.static yX7_notYear ∈ gtbl := gm (tm4 207 rfl) rfl
theorem wk_4_208 : Cond.code yX7_notYear cX7_notYear 1 (some .int) ∈ gtbl := gm (tm4 208 rfl) rfl
theorem wk_4_209 : Cond.methodLink RX7 186 yX7_wageOf ∈ gtbl := gm (tm4 209 rfl) rfl
theorem wk_4_211 : Cond.instanceMethod yX7_wageOf ∈ gtbl := gm (tm4 211 rfl) rfl
theorem wk_4_212 : Cond.code yX7_wageOf cX7_wageOf 7 (some .long) ∈ gtbl := gm (tm4 212 rfl) rfl
theorem wk_4_213 : Cond.methodLink RX7 180 yX7_lossIn ∈ gtbl := gm (tm4 213 rfl) rfl
theorem wk_4_215 : Cond.instanceMethod yX7_lossIn ∈ gtbl := gm (tm4 215 rfl) rfl
theorem wk_4_216 : Cond.code yX7_lossIn cX7_lossIn 3 (some .int) ∈ gtbl := gm (tm4 216 rfl) rfl
theorem wk_4_217 : Cond.methodLink RL 90 yX7_does ∈ gtbl := gm (tm4 217 rfl) rfl
theorem wk_4_218 : Cond.instanceMethod yX7_does ∈ gtbl := gm (tm4 218 rfl) rfl
theorem wk_4_219 : Cond.selects RX7 yX7_does yX7_does ∈ gtbl := gm (tm4 219 rfl) rfl
theorem wk_4_220 : Cond.code yX7_does cX7_does 5 (some .long) ∈ gtbl := gm (tm4 220 rfl) rfl
theorem wk_4_221 : Cond.methodLink RX7 193 yX7_notAsked ∈ gtbl := gm (tm4 221 rfl) rfl
theorem wk_4_223 : Cond.instanceMethod yX7_notAsked ∈ gtbl := gm (tm4 223 rfl) rfl
theorem wk_4_224 : Cond.code yX7_notAsked cX7_notAsked 3 (some .int) ∈ gtbl := gm (tm4 224 rfl) rfl
theorem wk_4_225 : Cond.methodLink RX7 196 yX7_differs ∈ gtbl := gm (tm4 225 rfl) rfl
theorem wk_4_227 : Cond.instanceMethod yX7_differs ∈ gtbl := gm (tm4 227 rfl) rfl
theorem wk_4_228 : Cond.code yX7_differs cX7_differs 14 (some .boolean) ∈ gtbl := gm (tm4 228 rfl) rfl
theorem wk_4_229 : Cond.methodLink RX7 190 yX7_hasServed ∈ gtbl := gm (tm4 229 rfl) rfl
theorem wk_4_231 : Cond.instanceMethod yX7_hasServed ∈ gtbl := gm (tm4 231 rfl) rfl
theorem wk_4_232 : Cond.code yX7_hasServed cX7_hasServed 3 (some .boolean) ∈ gtbl := gm (tm4 232 rfl) rfl
theorem wk_4_233 : Cond.methodLink RL 95 yX7_share ∈ gtbl := gm (tm4 233 rfl) rfl
theorem wk_4_234 : Cond.instanceMethod yX7_share ∈ gtbl := gm (tm4 234 rfl) rfl
theorem wk_4_235 : Cond.selects RX7 yX7_share yX7_share ∈ gtbl := gm (tm4 235 rfl) rfl
theorem wk_4_236 : Cond.code yX7_share cX7_share 4 (some .long) ∈ gtbl := gm (tm4 236 rfl) rfl
theorem wk_4_237 : Cond.methodLink RL 99 yX7_serving ∈ gtbl := gm (tm4 237 rfl) rfl
theorem wk_4_238 : Cond.instanceMethod yX7_serving ∈ gtbl := gm (tm4 238 rfl) rfl
theorem wk_4_239 : Cond.selects RX7 yX7_serving yX7_serving ∈ gtbl := gm (tm4 239 rfl) rfl
theorem wk_5_0 : Cond.code yX7_serving cX7_serving 9 (some .long) ∈ gtbl := gm (tm5 0 rfl) rfl
theorem wk_5_1 : Cond.methodLink RL 103 yX7_truly ∈ gtbl := gm (tm5 1 rfl) rfl
theorem wk_5_2 : Cond.instanceMethod yX7_truly ∈ gtbl := gm (tm5 2 rfl) rfl
theorem wk_5_3 : Cond.selects RX7 yX7_truly yX7_truly ∈ gtbl := gm (tm5 3 rfl) rfl
theorem wk_5_4 : Cond.code yX7_truly cX7_truly 7 (some .long) ∈ gtbl := gm (tm5 4 rfl) rfl
theorem wk_5_5 : Cond.methodLink RL 107 yX7_faded ∈ gtbl := gm (tm5 5 rfl) rfl
theorem wk_5_6 : Cond.instanceMethod yX7_faded ∈ gtbl := gm (tm5 6 rfl) rfl
theorem wk_5_7 : Cond.selects RX7 yX7_faded yX7_faded ∈ gtbl := gm (tm5 7 rfl) rfl
theorem wk_5_8 : Cond.code yX7_faded cX7_faded 5 (some .int) ∈ gtbl := gm (tm5 8 rfl) rfl
theorem wk_5_9 : Cond.methodLink RL 112 yX7_group ∈ gtbl := gm (tm5 9 rfl) rfl
theorem wk_5_10 : Cond.instanceMethod yX7_group ∈ gtbl := gm (tm5 10 rfl) rfl
theorem wk_5_11 : Cond.selects RX7 yX7_group yX7_group ∈ gtbl := gm (tm5 11 rfl) rfl
theorem wk_5_12 : Cond.code yX7_group cX7_group 9 (some .long) ∈ gtbl := gm (tm5 12 rfl) rfl
theorem wk_5_13 : Cond.methodLink RX7 202 yX7_bornIn ∈ gtbl := gm (tm5 13 rfl) rfl
theorem wk_5_15 : Cond.instanceMethod yX7_bornIn ∈ gtbl := gm (tm5 15 rfl) rfl
theorem wk_5_16 : Cond.code yX7_bornIn cX7_bornIn 4 (some .int) ∈ gtbl := gm (tm5 16 rfl) rfl
theorem wk_5_17 : Cond.methodLink RX7 199 yX7_monthOf ∈ gtbl := gm (tm5 17 rfl) rfl
theorem wk_5_19 : Cond.instanceMethod yX7_monthOf ∈ gtbl := gm (tm5 19 rfl) rfl
theorem wk_5_20 : Cond.code yX7_monthOf cX7_monthOf 3 (some .int) ∈ gtbl := gm (tm5 20 rfl) rfl
theorem wk_5_21 : Cond.constantLong RX7 205 (-9 : Int64) ∈ gtbl := gm (tm5 21 rfl) rfl
theorem wk_5_22 : Cond.methodLink RL 116 yX7_least ∈ gtbl := gm (tm5 22 rfl) rfl
theorem wk_5_23 : Cond.instanceMethod yX7_least ∈ gtbl := gm (tm5 23 rfl) rfl
theorem wk_5_24 : Cond.selects RX7 yX7_least yX7_least ∈ gtbl := gm (tm5 24 rfl) rfl
theorem wk_5_25 : Cond.code yX7_least cX7_least 4 (some .int) ∈ gtbl := gm (tm5 25 rfl) rfl
theorem wk_5_26 : Cond.methodLink RL 120 yX7_shown ∈ gtbl := gm (tm5 26 rfl) rfl
theorem wk_5_27 : Cond.instanceMethod yX7_shown ∈ gtbl := gm (tm5 27 rfl) rfl
theorem wk_5_28 : Cond.selects RX7 yX7_shown yX7_shown ∈ gtbl := gm (tm5 28 rfl) rfl
theorem wk_5_29 : Cond.code yX7_shown cX7_shown 3 (some .int) ∈ gtbl := gm (tm5 29 rfl) rfl
theorem wk_5_30 : Cond.methodLink RL 124 yX7_moved ∈ gtbl := gm (tm5 30 rfl) rfl
theorem wk_5_31 : Cond.instanceMethod yX7_moved ∈ gtbl := gm (tm5 31 rfl) rfl
theorem wk_5_32 : Cond.selects RX7 yX7_moved yX7_moved ∈ gtbl := gm (tm5 32 rfl) rfl
theorem wk_5_33 : Cond.code yX7_moved cX7_moved 3 (some .int) ∈ gtbl := gm (tm5 33 rfl) rfl
theorem wk_5_34 : Cond.methodLink RL 128 yX7_cuts ∈ gtbl := gm (tm5 34 rfl) rfl
theorem wk_5_35 : Cond.instanceMethod yX7_cuts ∈ gtbl := gm (tm5 35 rfl) rfl
theorem wk_5_36 : Cond.selects RX7 yX7_cuts yX7_cuts ∈ gtbl := gm (tm5 36 rfl) rfl
theorem wk_5_37 : Cond.code yX7_cuts cX7_cuts 7 (some .int) ∈ gtbl := gm (tm5 37 rfl) rfl
theorem wk_5_38 : Cond.methodLink RL 132 yX7_image ∈ gtbl := gm (tm5 38 rfl) rfl
theorem wk_5_39 : Cond.instanceMethod yX7_image ∈ gtbl := gm (tm5 39 rfl) rfl
theorem wk_5_40 : Cond.selects RX7 yX7_image yX7_image ∈ gtbl := gm (tm5 40 rfl) rfl
theorem wk_5_41 : Cond.code yX7_image cX7_image 1 (some .int) ∈ gtbl := gm (tm5 41 rfl) rfl
theorem wk_5_42 : Cond.methodLink RX7 224 yX7_passesAll ∈ gtbl := gm (tm5 42 rfl) rfl
theorem wk_5_44 : Cond.instanceMethod yX7_passesAll ∈ gtbl := gm (tm5 44 rfl) rfl
theorem wk_5_45 : Cond.code yX7_passesAll cX7_passesAll 1 none ∈ gtbl := gm (tm5 45 rfl) rfl
theorem wk_5_46 : Cond.methodLink RX7 214 yX7_passes ∈ gtbl := gm (tm5 46 rfl) rfl
theorem wk_5_48 : Cond.instanceMethod yX7_passes ∈ gtbl := gm (tm5 48 rfl) rfl
theorem wk_5_49 : Cond.code yX7_passes cX7_passes 3 none ∈ gtbl := gm (tm5 49 rfl) rfl
theorem wk_5_50 : Cond.methodLink RX7 218 yX7_passOne ∈ gtbl := gm (tm5 50 rfl) rfl
theorem wk_5_52 : Cond.instanceMethod yX7_passOne ∈ gtbl := gm (tm5 52 rfl) rfl
theorem wk_5_53 : Cond.code yX7_passOne cX7_passOne 3 (some .int) ∈ gtbl := gm (tm5 53 rfl) rfl
theorem wk_5_54 : Cond.methodLink RL 136 yX7_on ∈ gtbl := gm (tm5 54 rfl) rfl
theorem wk_5_55 : Cond.instanceMethod yX7_on ∈ gtbl := gm (tm5 55 rfl) rfl
theorem wk_5_56 : Cond.selects RX7 yX7_on yX7_on ∈ gtbl := gm (tm5 56 rfl) rfl
theorem wk_5_57 : Cond.code yX7_on cX7_on 1 (some .int) ∈ gtbl := gm (tm5 57 rfl) rfl
theorem wk_5_58 : Cond.methodLink RL 140 yX7_count ∈ gtbl := gm (tm5 58 rfl) rfl
theorem wk_5_59 : Cond.instanceMethod yX7_count ∈ gtbl := gm (tm5 59 rfl) rfl
theorem wk_5_60 : Cond.selects RX7 yX7_count yX7_count ∈ gtbl := gm (tm5 60 rfl) rfl
theorem wk_5_61 : Cond.code yX7_count cX7_count 4 (some .int) ∈ gtbl := gm (tm5 61 rfl) rfl
theorem wk_5_62 : Cond.constantLong RL 13 (4294967295 : Int64) ∈ gtbl := gm (tm5 62 rfl) rfl
theorem sm {q : MethodName × Nat} (h : q ∈ lw_privs) (hg : goodWord (Cond.selects q.1.cls q.1 q.1) = true) : Cond.selects q.1.cls q.1 q.1 ∈ gtbl := List.mem_filter.mpr ⟨List.mem_append_left _ (List.mem_map.mpr ⟨q, h, rfl⟩), hg⟩
theorem wk_p0 : Cond.selects RX0 yX0_draw yX0_draw ∈ gtbl := sm (q := (yX0_draw, 10)) (List.mem_of_getElem? (i := 0) rfl) rfl
theorem wk_p1 : Cond.selects RX0 yX0_layDays yX0_layDays ∈ gtbl := sm (q := (yX0_layDays, 10)) (List.mem_of_getElem? (i := 1) rfl) rfl
theorem wk_p2 : Cond.selects RX0 yX0_shakeRow yX0_shakeRow ∈ gtbl := sm (q := (yX0_shakeRow, 10)) (List.mem_of_getElem? (i := 2) rfl) rfl
theorem wk_p3 : Cond.selects RX0 yX0_lot yX0_lot ∈ gtbl := sm (q := (yX0_lot, 10)) (List.mem_of_getElem? (i := 3) rfl) rfl
theorem wk_p4 : Cond.selects RX0 yX0_swap yX0_swap ∈ gtbl := sm (q := (yX0_swap, 10)) (List.mem_of_getElem? (i := 4) rfl) rfl
theorem wk_p5 : Cond.selects RX0 yX0_turnRow yX0_turnRow ∈ gtbl := sm (q := (yX0_turnRow, 10)) (List.mem_of_getElem? (i := 5) rfl) rfl
theorem wk_p6 : Cond.selects RX0 yX0_drawRow yX0_drawRow ∈ gtbl := sm (q := (yX0_drawRow, 10)) (List.mem_of_getElem? (i := 6) rfl) rfl
theorem wk_p7 : Cond.selects RX0 yX0_closeGap yX0_closeGap ∈ gtbl := sm (q := (yX0_closeGap, 10)) (List.mem_of_getElem? (i := 7) rfl) rfl
theorem wk_p8 : Cond.selects RX5 yX5_hasRoomFor yX5_hasRoomFor ∈ gtbl := sm (q := (yX5_hasRoomFor, 5)) (List.mem_of_getElem? (i := 8) rfl) rfl
theorem wk_p9 : Cond.selects RX6 yX6_refuse yX6_refuse ∈ gtbl := sm (q := (yX6_refuse, 6)) (List.mem_of_getElem? (i := 9) rfl) rfl
theorem wk_p10 : Cond.selects RX5 yX5_append yX5_append ∈ gtbl := sm (q := (yX5_append, 5)) (List.mem_of_getElem? (i := 10) rfl) rfl
theorem wk_p11 : Cond.selects RX5 yX5_read yX5_read ∈ gtbl := sm (q := (yX5_read, 5)) (List.mem_of_getElem? (i := 11) rfl) rfl
theorem wk_p12 : Cond.selects RX5 yX5_byteAt yX5_byteAt ∈ gtbl := sm (q := (yX5_byteAt, 5)) (List.mem_of_getElem? (i := 12) rfl) rfl
theorem wk_p13 : Cond.selects RX5 yX5_endOfDigits yX5_endOfDigits ∈ gtbl := sm (q := (yX5_endOfDigits, 5)) (List.mem_of_getElem? (i := 13) rfl) rfl
theorem wk_p14 : Cond.selects RX5 yX5_isDigit yX5_isDigit ∈ gtbl := sm (q := (yX5_isDigit, 5)) (List.mem_of_getElem? (i := 14) rfl) rfl
theorem wk_p15 : Cond.selects RX5 yX5_valueOf yX5_valueOf ∈ gtbl := sm (q := (yX5_valueOf, 5)) (List.mem_of_getElem? (i := 15) rfl) rfl
theorem wk_p16 : Cond.selects RX5 yX5_empty yX5_empty ∈ gtbl := sm (q := (yX5_empty, 5)) (List.mem_of_getElem? (i := 16) rfl) rfl
theorem wk_p17 : Cond.selects RX2 yX2_enrol yX2_enrol ∈ gtbl := sm (q := (yX2_enrol, 4)) (List.mem_of_getElem? (i := 17) rfl) rfl
theorem wk_p18 : Cond.selects RX1 yX1_jarAt yX1_jarAt ∈ gtbl := sm (q := (yX1_jarAt, 8)) (List.mem_of_getElem? (i := 18) rfl) rfl
theorem wk_p19 : Cond.selects RX0 yX0_prepare yX0_prepare ∈ gtbl := sm (q := (yX0_prepare, 10)) (List.mem_of_getElem? (i := 19) rfl) rfl
theorem wk_p20 : Cond.selects RX0 yX0_turnOver yX0_turnOver ∈ gtbl := sm (q := (yX0_turnOver, 10)) (List.mem_of_getElem? (i := 20) rfl) rfl
theorem wk_p21 : Cond.selects RX0 yX0_numberAt yX0_numberAt ∈ gtbl := sm (q := (yX0_numberAt, 10)) (List.mem_of_getElem? (i := 21) rfl) rfl
theorem wk_p22 : Cond.selects RX0 yX0_dayAt yX0_dayAt ∈ gtbl := sm (q := (yX0_dayAt, 10)) (List.mem_of_getElem? (i := 22) rfl) rfl
theorem wk_p23 : Cond.selects RX6 yX6_refuseLong yX6_refuseLong ∈ gtbl := sm (q := (yX6_refuseLong, 6)) (List.mem_of_getElem? (i := 23) rfl) rfl
theorem wk_p24 : Cond.selects RX0 yX0_monthSum yX0_monthSum ∈ gtbl := sm (q := (yX0_monthSum, 10)) (List.mem_of_getElem? (i := 24) rfl) rfl
theorem wk_p25 : Cond.selects RX3 yX3_become yX3_become ∈ gtbl := sm (q := (yX3_become, 2)) (List.mem_of_getElem? (i := 25) rfl) rfl
theorem wk_p26 : Cond.selects RX3 yX3_partAt yX3_partAt ∈ gtbl := sm (q := (yX3_partAt, 2)) (List.mem_of_getElem? (i := 26) rfl) rfl
theorem wk_p27 : Cond.selects RX0 yX0_leaning yX0_leaning ∈ gtbl := sm (q := (yX0_leaning, 10)) (List.mem_of_getElem? (i := 27) rfl) rfl
theorem wk_p28 : Cond.selects RX0 yX0_worstMonth yX0_worstMonth ∈ gtbl := sm (q := (yX0_worstMonth, 10)) (List.mem_of_getElem? (i := 28) rfl) rfl
theorem wk_p29 : Cond.selects RX0 yX0_monthDistance yX0_monthDistance ∈ gtbl := sm (q := (yX0_monthDistance, 10)) (List.mem_of_getElem? (i := 29) rfl) rfl
theorem wk_p30 : Cond.selects RX0 yX0_turnedPairs yX0_turnedPairs ∈ gtbl := sm (q := (yX0_turnedPairs, 10)) (List.mem_of_getElem? (i := 30) rfl) rfl
theorem wk_p31 : Cond.selects RX0 yX0_seenAbove yX0_seenAbove ∈ gtbl := sm (q := (yX0_seenAbove, 10)) (List.mem_of_getElem? (i := 31) rfl) rfl
theorem wk_p32 : Cond.selects RX0 yX0_markSeen yX0_markSeen ∈ gtbl := sm (q := (yX0_markSeen, 10)) (List.mem_of_getElem? (i := 32) rfl) rfl
theorem wk_p33 : Cond.selects RX6 yX6_isMan yX6_isMan ∈ gtbl := sm (q := (yX6_isMan, 6)) (List.mem_of_getElem? (i := 33) rfl) rfl
theorem wk_p34 : Cond.selects RX2 yX2_kindAt yX2_kindAt ∈ gtbl := sm (q := (yX2_kindAt, 4)) (List.mem_of_getElem? (i := 34) rfl) rfl
theorem wk_p35 : Cond.selects RX2 yX2_birthdayAt yX2_birthdayAt ∈ gtbl := sm (q := (yX2_birthdayAt, 4)) (List.mem_of_getElem? (i := 35) rfl) rfl
theorem wk_p36 : Cond.selects RX2 yX2_payAt yX2_payAt ∈ gtbl := sm (q := (yX2_payAt, 4)) (List.mem_of_getElem? (i := 36) rfl) rfl
theorem wk_p37 : Cond.selects RX1 yX1_isCalledBy yX1_isCalledBy ∈ gtbl := sm (q := (yX1_isCalledBy, 8)) (List.mem_of_getElem? (i := 37) rfl) rfl
theorem wk_p38 : Cond.selects RX1 yX1_numberOfMan yX1_numberOfMan ∈ gtbl := sm (q := (yX1_numberOfMan, 8)) (List.mem_of_getElem? (i := 38) rfl) rfl
theorem wk_p39 : Cond.selects RX1 yX1_isCalled yX1_isCalled ∈ gtbl := sm (q := (yX1_isCalled, 8)) (List.mem_of_getElem? (i := 39) rfl) rfl
theorem wk_p40 : Cond.selects RX1 yX1_serviceOf yX1_serviceOf ∈ gtbl := sm (q := (yX1_serviceOf, 8)) (List.mem_of_getElem? (i := 40) rfl) rfl
theorem wk_p41 : Cond.selects RX1 yX1_serviceBy yX1_serviceBy ∈ gtbl := sm (q := (yX1_serviceBy, 8)) (List.mem_of_getElem? (i := 41) rfl) rfl
theorem wk_p42 : Cond.selects RX1 yX1_wageOf yX1_wageOf ∈ gtbl := sm (q := (yX1_wageOf, 8)) (List.mem_of_getElem? (i := 42) rfl) rfl
theorem wk_p43 : Cond.selects RX1 yX1_changeByService yX1_changeByService ∈ gtbl := sm (q := (yX1_changeByService, 8)) (List.mem_of_getElem? (i := 43) rfl) rfl
theorem wk_p44 : Cond.selects RX1 yX1_lossLeft yX1_lossLeft ∈ gtbl := sm (q := (yX1_lossLeft, 8)) (List.mem_of_getElem? (i := 44) rfl) rfl
theorem wk_p45 : Cond.selects RX1 yX1_findDoes yX1_findDoes ∈ gtbl := sm (q := (yX1_findDoes, 8)) (List.mem_of_getElem? (i := 45) rfl) rfl
theorem wk_p46 : Cond.selects RX4 yX4_clear yX4_clear ∈ gtbl := sm (q := (yX4_clear, 4)) (List.mem_of_getElem? (i := 46) rfl) rfl
theorem wk_p47 : Cond.selects RX4 yX4_enter yX4_enter ∈ gtbl := sm (q := (yX4_enter, 4)) (List.mem_of_getElem? (i := 47) rfl) rfl
theorem wk_p48 : Cond.selects RX4 yX4_findGap yX4_findGap ∈ gtbl := sm (q := (yX4_findGap, 4)) (List.mem_of_getElem? (i := 48) rfl) rfl
theorem wk_p49 : Cond.selects RX6 yX6_partOrNone yX6_partOrNone ∈ gtbl := sm (q := (yX6_partOrNone, 6)) (List.mem_of_getElem? (i := 49) rfl) rfl
theorem wk_p50 : Cond.selects RX1 yX1_findShare yX1_findShare ∈ gtbl := sm (q := (yX1_findShare, 8)) (List.mem_of_getElem? (i := 50) rfl) rfl
theorem wk_p51 : Cond.selects RX1 yX1_hasServed yX1_hasServed ∈ gtbl := sm (q := (yX1_hasServed, 8)) (List.mem_of_getElem? (i := 51) rfl) rfl
theorem wk_p52 : Cond.selects RX1 yX1_findServing yX1_findServing ∈ gtbl := sm (q := (yX1_findServing, 8)) (List.mem_of_getElem? (i := 52) rfl) rfl
theorem wk_p53 : Cond.selects RX1 yX1_findTruly yX1_findTruly ∈ gtbl := sm (q := (yX1_findTruly, 8)) (List.mem_of_getElem? (i := 53) rfl) rfl
theorem wk_p54 : Cond.selects RX1 yX1_servesOnlyIfCalled yX1_servesOnlyIfCalled ∈ gtbl := sm (q := (yX1_servesOnlyIfCalled, 8)) (List.mem_of_getElem? (i := 54) rfl) rfl
theorem wk_p55 : Cond.selects RX3 yX3_isWithin yX3_isWithin ∈ gtbl := sm (q := (yX3_isWithin, 2)) (List.mem_of_getElem? (i := 55) rfl) rfl
theorem wk_p56 : Cond.selects RX1 yX1_isShown yX1_isShown ∈ gtbl := sm (q := (yX1_isShown, 8)) (List.mem_of_getElem? (i := 56) rfl) rfl
theorem wk_p57 : Cond.selects RX1 yX1_menOfMonth yX1_menOfMonth ∈ gtbl := sm (q := (yX1_menOfMonth, 8)) (List.mem_of_getElem? (i := 57) rfl) rfl
theorem wk_p58 : Cond.selects RX1 yX1_findGroup yX1_findGroup ∈ gtbl := sm (q := (yX1_findGroup, 8)) (List.mem_of_getElem? (i := 58) rfl) rfl
theorem wk_p59 : Cond.selects RX1 yX1_leastCutFor yX1_leastCutFor ∈ gtbl := sm (q := (yX1_leastCutFor, 8)) (List.mem_of_getElem? (i := 59) rfl) rfl
theorem wk_p60 : Cond.selects RX1 yX1_menWithNumberUpTo yX1_menWithNumberUpTo ∈ gtbl := sm (q := (yX1_menWithNumberUpTo, 8)) (List.mem_of_getElem? (i := 60) rfl) rfl
theorem wk_p61 : Cond.selects RX1 yX1_copyLottery yX1_copyLottery ∈ gtbl := sm (q := (yX1_copyLottery, 8)) (List.mem_of_getElem? (i := 61) rfl) rfl
theorem wk_p62 : Cond.selects RX0 yX0_copyJar yX0_copyJar ∈ gtbl := sm (q := (yX0_copyJar, 10)) (List.mem_of_getElem? (i := 62) rfl) rfl
theorem wk_p63 : Cond.selects RX2 yX2_copyMen yX2_copyMen ∈ gtbl := sm (q := (yX2_copyMen, 4)) (List.mem_of_getElem? (i := 63) rfl) rfl
theorem wk_p64 : Cond.selects RX1 yX1_menWhoServed yX1_menWhoServed ∈ gtbl := sm (q := (yX1_menWhoServed, 8)) (List.mem_of_getElem? (i := 64) rfl) rfl
theorem wk_p65 : Cond.selects RX7 yX7_no yX7_no ∈ gtbl := sm (q := (yX7_no, 28)) (List.mem_of_getElem? (i := 65) rfl) rfl
theorem wk_p66 : Cond.selects RX7 yX7_numberOf yX7_numberOf ∈ gtbl := sm (q := (yX7_numberOf, 28)) (List.mem_of_getElem? (i := 66) rfl) rfl
theorem wk_p67 : Cond.selects RX7 yX7_draws yX7_draws ∈ gtbl := sm (q := (yX7_draws, 28)) (List.mem_of_getElem? (i := 67) rfl) rfl
theorem wk_p68 : Cond.selects RX7 yX7_lot yX7_lot ∈ gtbl := sm (q := (yX7_lot, 28)) (List.mem_of_getElem? (i := 68) rfl) rfl
theorem wk_p69 : Cond.selects RX7 yX7_changes yX7_changes ∈ gtbl := sm (q := (yX7_changes, 28)) (List.mem_of_getElem? (i := 69) rfl) rfl
theorem wk_p70 : Cond.selects RX7 yX7_noLong yX7_noLong ∈ gtbl := sm (q := (yX7_noLong, 28)) (List.mem_of_getElem? (i := 70) rfl) rfl
theorem wk_p71 : Cond.selects RX7 yX7_sumOf yX7_sumOf ∈ gtbl := sm (q := (yX7_sumOf, 28)) (List.mem_of_getElem? (i := 71) rfl) rfl
theorem wk_p72 : Cond.selects RX7 yX7_firstOf yX7_firstOf ∈ gtbl := sm (q := (yX7_firstOf, 28)) (List.mem_of_getElem? (i := 72) rfl) rfl
theorem wk_p73 : Cond.selects RX7 yX7_lessens yX7_lessens ∈ gtbl := sm (q := (yX7_lessens, 28)) (List.mem_of_getElem? (i := 73) rfl) rfl
theorem wk_p74 : Cond.selects RX7 yX7_told yX7_told ∈ gtbl := sm (q := (yX7_told, 28)) (List.mem_of_getElem? (i := 74) rfl) rfl
theorem wk_p75 : Cond.selects RX7 yX7_offOf yX7_offOf ∈ gtbl := sm (q := (yX7_offOf, 28)) (List.mem_of_getElem? (i := 75) rfl) rfl
theorem wk_p76 : Cond.selects RX7 yX7_reads yX7_reads ∈ gtbl := sm (q := (yX7_reads, 28)) (List.mem_of_getElem? (i := 76) rfl) rfl
theorem wk_p77 : Cond.selects RX7 yX7_sign yX7_sign ∈ gtbl := sm (q := (yX7_sign, 28)) (List.mem_of_getElem? (i := 77) rfl) rfl
theorem wk_p78 : Cond.selects RX7 yX7_number_ yX7_number_ ∈ gtbl := sm (q := (yX7_number_, 28)) (List.mem_of_getElem? (i := 78) rfl) rfl
theorem wk_p79 : Cond.selects RX7 yX7_isMan yX7_isMan ∈ gtbl := sm (q := (yX7_isMan, 28)) (List.mem_of_getElem? (i := 79) rfl) rfl
theorem wk_p80 : Cond.selects RX7 yX7_isCalled yX7_isCalled ∈ gtbl := sm (q := (yX7_isCalled, 28)) (List.mem_of_getElem? (i := 80) rfl) rfl
theorem wk_p81 : Cond.selects RX7 yX7_servedAs yX7_servedAs ∈ gtbl := sm (q := (yX7_servedAs, 28)) (List.mem_of_getElem? (i := 81) rfl) rfl
theorem wk_p82 : Cond.selects RX7 yX7_wageOf yX7_wageOf ∈ gtbl := sm (q := (yX7_wageOf, 28)) (List.mem_of_getElem? (i := 82) rfl) rfl
theorem wk_p83 : Cond.selects RX7 yX7_lossIn yX7_lossIn ∈ gtbl := sm (q := (yX7_lossIn, 28)) (List.mem_of_getElem? (i := 83) rfl) rfl
theorem wk_p84 : Cond.selects RX7 yX7_notAsked yX7_notAsked ∈ gtbl := sm (q := (yX7_notAsked, 28)) (List.mem_of_getElem? (i := 84) rfl) rfl
theorem wk_p85 : Cond.selects RX7 yX7_differs yX7_differs ∈ gtbl := sm (q := (yX7_differs, 28)) (List.mem_of_getElem? (i := 85) rfl) rfl
theorem wk_p86 : Cond.selects RX7 yX7_hasServed yX7_hasServed ∈ gtbl := sm (q := (yX7_hasServed, 28)) (List.mem_of_getElem? (i := 86) rfl) rfl
theorem wk_p87 : Cond.selects RX7 yX7_bornIn yX7_bornIn ∈ gtbl := sm (q := (yX7_bornIn, 28)) (List.mem_of_getElem? (i := 87) rfl) rfl
theorem wk_p88 : Cond.selects RX7 yX7_monthOf yX7_monthOf ∈ gtbl := sm (q := (yX7_monthOf, 28)) (List.mem_of_getElem? (i := 88) rfl) rfl
theorem wk_p89 : Cond.selects RX7 yX7_passesAll yX7_passesAll ∈ gtbl := sm (q := (yX7_passesAll, 28)) (List.mem_of_getElem? (i := 89) rfl) rfl
theorem wk_p90 : Cond.selects RX7 yX7_passes yX7_passes ∈ gtbl := sm (q := (yX7_passes, 28)) (List.mem_of_getElem? (i := 90) rfl) rfl
theorem wk_p91 : Cond.selects RX7 yX7_passOne yX7_passOne ∈ gtbl := sm (q := (yX7_passOne, 28)) (List.mem_of_getElem? (i := 91) rfl) rfl
end
section
theorem dX0_init_0 : decode cX0_init 0 = .ok (.aload_n 0, 1) := by decide +kernel
theorem dX0_init_1 : decode cX0_init 1 = .ok (.invokespecial 3, 3) := by decide +kernel
theorem dX0_init_4 : decode cX0_init 4 = .ok (.aload_n 0, 1) := by decide +kernel
theorem dX0_init_5 : decode cX0_init 5 = .ok (.iconst 1, 1) := by decide +kernel
theorem dX0_init_6 : decode cX0_init 6 = .ok (.putfield 9, 3) := by decide +kernel
theorem dX0_init_9 : decode cX0_init 9 = .ok (.aload_n 0, 1) := by decide +kernel
theorem dX0_init_10 : decode cX0_init 10 = .ok (.bipush 100, 2) := by decide +kernel
theorem dX0_init_12 : decode cX0_init 12 = .ok (.putfield 15, 3) := by decide +kernel
theorem dX0_init_15 : decode cX0_init 15 = .ok (.aload_n 0, 1) := by decide +kernel
theorem dX0_init_16 : decode cX0_init 16 = .ok (.bipush 20, 2) := by decide +kernel
theorem dX0_init_18 : decode cX0_init 18 = .ok (.putfield 18, 3) := by decide +kernel
theorem dX0_init_21 : decode cX0_init 21 = .ok (.aload_n 0, 1) := by decide +kernel
theorem dX0_init_22 : decode cX0_init 22 = .ok (.iconst 1, 1) := by decide +kernel
theorem dX0_init_23 : decode cX0_init 23 = .ok (.putfield 21, 3) := by decide +kernel
theorem dX0_init_26 : decode cX0_init 26 = .ok (.aload_n 0, 1) := by decide +kernel
theorem dX0_init_27 : decode cX0_init 27 = .ok (.iconst 1, 1) := by decide +kernel
theorem dX0_init_28 : decode cX0_init 28 = .ok (.putfield 24, 3) := by decide +kernel
theorem dX0_init_31 : decode cX0_init 31 = .ok (.aload_n 0, 1) := by decide +kernel
theorem dX0_init_32 : decode cX0_init 32 = .ok (.sipush 366, 3) := by decide +kernel
theorem dX0_init_35 : decode cX0_init 35 = .ok (.newarray .int, 2) := by decide +kernel
theorem dX0_init_37 : decode cX0_init 37 = .ok (.putfield 28, 3) := by decide +kernel
theorem dX0_init_40 : decode cX0_init 40 = .ok (.aload_n 0, 1) := by decide +kernel
theorem dX0_init_41 : decode cX0_init 41 = .ok (.sipush 367, 3) := by decide +kernel
theorem dX0_init_44 : decode cX0_init 44 = .ok (.newarray .int, 2) := by decide +kernel
theorem dX0_init_46 : decode cX0_init 46 = .ok (.putfield 32, 3) := by decide +kernel
theorem dX0_init_49 : decode cX0_init 49 = .ok (.aload_n 0, 1) := by decide +kernel
theorem dX0_init_50 : decode cX0_init 50 = .ok (.sipush 366, 3) := by decide +kernel
theorem dX0_init_53 : decode cX0_init 53 = .ok (.newarray .int, 2) := by decide +kernel
theorem dX0_init_55 : decode cX0_init 55 = .ok (.putfield 35, 3) := by decide +kernel
theorem dX0_init_58 : decode cX0_init 58 = .ok (.aload_n 0, 1) := by decide +kernel
theorem dX0_init_59 : decode cX0_init 59 = .ok (.bipush 6, 2) := by decide +kernel
theorem dX0_init_61 : decode cX0_init 61 = .ok (.newarray .long, 2) := by decide +kernel
theorem dX0_init_63 : decode cX0_init 63 = .ok (.putfield 38, 3) := by decide +kernel
theorem dX0_init_66 : decode cX0_init 66 = .ok (.aload_n 0, 1) := by decide +kernel
theorem dX0_init_67 : decode cX0_init 67 = .ok (.iconst 0, 1) := by decide +kernel
theorem dX0_init_68 : decode cX0_init 68 = .ok (.putfield 42, 3) := by decide +kernel
theorem dX0_init_71 : decode cX0_init 71 = .ok (.aload_n 0, 1) := by decide +kernel
theorem dX0_init_72 : decode cX0_init 72 = .ok (.invokevirtual 45, 3) := by decide +kernel
theorem dX0_init_75 : decode cX0_init 75 = .ok (.return_, 1) := by decide +kernel
set_option maxRecDepth 20000 in
theorem dX0_prepare_0 : decode cX0_prepare 0 = .ok (.aload_n 0, 1) := by decide +kernel
theorem dX0_prepare_1 : decode cX0_prepare 1 = .ok (.iload_n 1, 1) := by decide +kernel
theorem dX0_prepare_2 : decode cX0_prepare 2 = .ok (.putfield 9, 3) := by decide +kernel
theorem dX0_prepare_5 : decode cX0_prepare 5 = .ok (.aload_n 0, 1) := by decide +kernel
theorem dX0_prepare_6 : decode cX0_prepare 6 = .ok (.iload_n 2, 1) := by decide +kernel
theorem dX0_prepare_7 : decode cX0_prepare 7 = .ok (.putfield 15, 3) := by decide +kernel
theorem dX0_prepare_10 : decode cX0_prepare 10 = .ok (.aload_n 0, 1) := by decide +kernel
theorem dX0_prepare_11 : decode cX0_prepare 11 = .ok (.iload_n 3, 1) := by decide +kernel
theorem dX0_prepare_12 : decode cX0_prepare 12 = .ok (.putfield 18, 3) := by decide +kernel
theorem dX0_prepare_15 : decode cX0_prepare 15 = .ok (.aload_n 0, 1) := by decide +kernel
theorem dX0_prepare_16 : decode cX0_prepare 16 = .ok (.iload 4, 2) := by decide +kernel
theorem dX0_prepare_18 : decode cX0_prepare 18 = .ok (.putfield 21, 3) := by decide +kernel
theorem dX0_prepare_21 : decode cX0_prepare 21 = .ok (.aload_n 0, 1) := by decide +kernel
theorem dX0_prepare_22 : decode cX0_prepare 22 = .ok (.invokevirtual 45, 3) := by decide +kernel
theorem dX0_prepare_25 : decode cX0_prepare 25 = .ok (.return_, 1) := by decide +kernel
set_option maxRecDepth 20000 in
theorem dX0_turnOver_0 : decode cX0_turnOver 0 = .ok (.aload_n 0, 1) := by decide +kernel
theorem dX0_turnOver_1 : decode cX0_turnOver 1 = .ok (.getfield 24, 3) := by decide +kernel
theorem dX0_turnOver_4 : decode cX0_turnOver 4 = .ok (.iload_n 1, 1) := by decide +kernel
theorem dX0_turnOver_5 : decode cX0_turnOver 5 = .ok (.if_icmp .ne 5, 3) := by decide +kernel
theorem dX0_turnOver_8 : decode cX0_turnOver 8 = .ok (.iconst 0, 1) := by decide +kernel
theorem dX0_turnOver_9 : decode cX0_turnOver 9 = .ok (.ireturn, 1) := by decide +kernel
theorem dX0_turnOver_10 : decode cX0_turnOver 10 = .ok (.aload_n 0, 1) := by decide +kernel
theorem dX0_turnOver_11 : decode cX0_turnOver 11 = .ok (.iload_n 1, 1) := by decide +kernel
theorem dX0_turnOver_12 : decode cX0_turnOver 12 = .ok (.putfield 24, 3) := by decide +kernel
theorem dX0_turnOver_15 : decode cX0_turnOver 15 = .ok (.aload_n 0, 1) := by decide +kernel
theorem dX0_turnOver_16 : decode cX0_turnOver 16 = .ok (.invokevirtual 45, 3) := by decide +kernel
theorem dX0_turnOver_19 : decode cX0_turnOver 19 = .ok (.iconst 1, 1) := by decide +kernel
theorem dX0_turnOver_20 : decode cX0_turnOver 20 = .ok (.ireturn, 1) := by decide +kernel
set_option maxRecDepth 20000 in
theorem dX0_copyJar_0 : decode cX0_copyJar 0 = .ok (.aload_n 0, 1) := by decide +kernel
theorem dX0_copyJar_1 : decode cX0_copyJar 1 = .ok (.aload_n 1, 1) := by decide +kernel
theorem dX0_copyJar_2 : decode cX0_copyJar 2 = .ok (.getfield 9, 3) := by decide +kernel
theorem dX0_copyJar_5 : decode cX0_copyJar 5 = .ok (.putfield 9, 3) := by decide +kernel
theorem dX0_copyJar_8 : decode cX0_copyJar 8 = .ok (.aload_n 0, 1) := by decide +kernel
theorem dX0_copyJar_9 : decode cX0_copyJar 9 = .ok (.aload_n 1, 1) := by decide +kernel
theorem dX0_copyJar_10 : decode cX0_copyJar 10 = .ok (.getfield 15, 3) := by decide +kernel
theorem dX0_copyJar_13 : decode cX0_copyJar 13 = .ok (.putfield 15, 3) := by decide +kernel
theorem dX0_copyJar_16 : decode cX0_copyJar 16 = .ok (.aload_n 0, 1) := by decide +kernel
theorem dX0_copyJar_17 : decode cX0_copyJar 17 = .ok (.aload_n 1, 1) := by decide +kernel
theorem dX0_copyJar_18 : decode cX0_copyJar 18 = .ok (.getfield 18, 3) := by decide +kernel
theorem dX0_copyJar_21 : decode cX0_copyJar 21 = .ok (.putfield 18, 3) := by decide +kernel
theorem dX0_copyJar_24 : decode cX0_copyJar 24 = .ok (.aload_n 0, 1) := by decide +kernel
theorem dX0_copyJar_25 : decode cX0_copyJar 25 = .ok (.aload_n 1, 1) := by decide +kernel
theorem dX0_copyJar_26 : decode cX0_copyJar 26 = .ok (.getfield 21, 3) := by decide +kernel
theorem dX0_copyJar_29 : decode cX0_copyJar 29 = .ok (.putfield 21, 3) := by decide +kernel
theorem dX0_copyJar_32 : decode cX0_copyJar 32 = .ok (.aload_n 0, 1) := by decide +kernel
theorem dX0_copyJar_33 : decode cX0_copyJar 33 = .ok (.aload_n 1, 1) := by decide +kernel
theorem dX0_copyJar_34 : decode cX0_copyJar 34 = .ok (.getfield 24, 3) := by decide +kernel
theorem dX0_copyJar_37 : decode cX0_copyJar 37 = .ok (.putfield 24, 3) := by decide +kernel
theorem dX0_copyJar_40 : decode cX0_copyJar 40 = .ok (.aload_n 1, 1) := by decide +kernel
theorem dX0_copyJar_41 : decode cX0_copyJar 41 = .ok (.getfield 28, 3) := by decide +kernel
theorem dX0_copyJar_44 : decode cX0_copyJar 44 = .ok (.aload_n 0, 1) := by decide +kernel
theorem dX0_copyJar_45 : decode cX0_copyJar 45 = .ok (.getfield 28, 3) := by decide +kernel
theorem dX0_copyJar_48 : decode cX0_copyJar 48 = .ok (.invokestatic 48, 3) := by decide +kernel
theorem dX0_copyJar_51 : decode cX0_copyJar 51 = .ok (.aload_n 1, 1) := by decide +kernel
theorem dX0_copyJar_52 : decode cX0_copyJar 52 = .ok (.getfield 32, 3) := by decide +kernel
theorem dX0_copyJar_55 : decode cX0_copyJar 55 = .ok (.aload_n 0, 1) := by decide +kernel
theorem dX0_copyJar_56 : decode cX0_copyJar 56 = .ok (.getfield 32, 3) := by decide +kernel
theorem dX0_copyJar_59 : decode cX0_copyJar 59 = .ok (.invokestatic 48, 3) := by decide +kernel
theorem dX0_copyJar_62 : decode cX0_copyJar 62 = .ok (.return_, 1) := by decide +kernel
set_option maxRecDepth 20000 in
theorem dX0_draw_0 : decode cX0_draw 0 = .ok (.aload_n 0, 1) := by decide +kernel
theorem dX0_draw_1 : decode cX0_draw 1 = .ok (.aload_n 0, 1) := by decide +kernel
theorem dX0_draw_2 : decode cX0_draw 2 = .ok (.getfield 9, 3) := by decide +kernel
theorem dX0_draw_5 : decode cX0_draw 5 = .ok (.putfield 42, 3) := by decide +kernel
theorem dX0_draw_8 : decode cX0_draw 8 = .ok (.aload_n 0, 1) := by decide +kernel
theorem dX0_draw_9 : decode cX0_draw 9 = .ok (.invokevirtual 52, 3) := by decide +kernel
theorem dX0_draw_12 : decode cX0_draw 12 = .ok (.aload_n 0, 1) := by decide +kernel
theorem dX0_draw_13 : decode cX0_draw 13 = .ok (.invokevirtual 55, 3) := by decide +kernel
theorem dX0_draw_16 : decode cX0_draw 16 = .ok (.aload_n 0, 1) := by decide +kernel
theorem dX0_draw_17 : decode cX0_draw 17 = .ok (.getfield 24, 3) := by decide +kernel
theorem dX0_draw_20 : decode cX0_draw 20 = .ok (.ifCond .eq 7, 3) := by decide +kernel
theorem dX0_draw_23 : decode cX0_draw 23 = .ok (.aload_n 0, 1) := by decide +kernel
theorem dX0_draw_24 : decode cX0_draw 24 = .ok (.invokevirtual 58, 3) := by decide +kernel
theorem dX0_draw_27 : decode cX0_draw 27 = .ok (.aload_n 0, 1) := by decide +kernel
theorem dX0_draw_28 : decode cX0_draw 28 = .ok (.invokevirtual 61, 3) := by decide +kernel
theorem dX0_draw_31 : decode cX0_draw 31 = .ok (.return_, 1) := by decide +kernel
theorem dX0_lot_0 : decode cX0_lot 0 = .ok (.aload_n 0, 1) := by decide +kernel
theorem dX0_lot_1 : decode cX0_lot 1 = .ok (.aload_n 0, 1) := by decide +kernel
theorem dX0_lot_2 : decode cX0_lot 2 = .ok (.getfield 42, 3) := by decide +kernel
theorem dX0_lot_5 : decode cX0_lot 5 = .ok (.ldc 64, 2) := by decide +kernel
theorem dX0_lot_7 : decode cX0_lot 7 = .ok (.imul, 1) := by decide +kernel
theorem dX0_lot_8 : decode cX0_lot 8 = .ok (.ldc 65, 2) := by decide +kernel
theorem dX0_lot_10 : decode cX0_lot 10 = .ok (.iadd, 1) := by decide +kernel
theorem dX0_lot_11 : decode cX0_lot 11 = .ok (.putfield 42, 3) := by decide +kernel
theorem dX0_lot_14 : decode cX0_lot 14 = .ok (.iload_n 1, 1) := by decide +kernel
theorem dX0_lot_15 : decode cX0_lot 15 = .ok (.iconst 1, 1) := by decide +kernel
theorem dX0_lot_16 : decode cX0_lot 16 = .ok (.if_icmp .ge 7, 3) := by decide +kernel
theorem dX0_lot_19 : decode cX0_lot 19 = .ok (.iconst 0, 1) := by decide +kernel
theorem dX0_lot_20 : decode cX0_lot 20 = .ok (.goto 16, 3) := by decide +kernel
theorem dX0_lot_23 : decode cX0_lot 23 = .ok (.aload_n 0, 1) := by decide +kernel
theorem dX0_lot_24 : decode cX0_lot 24 = .ok (.getfield 42, 3) := by decide +kernel
theorem dX0_lot_27 : decode cX0_lot 27 = .ok (.ldc 66, 2) := by decide +kernel
theorem dX0_lot_29 : decode cX0_lot 29 = .ok (.iand, 1) := by decide +kernel
theorem dX0_lot_30 : decode cX0_lot 30 = .ok (.sipush 256, 3) := by decide +kernel
theorem dX0_lot_33 : decode cX0_lot 33 = .ok (.idiv, 1) := by decide +kernel
theorem dX0_lot_34 : decode cX0_lot 34 = .ok (.iload_n 1, 1) := by decide +kernel
theorem dX0_lot_35 : decode cX0_lot 35 = .ok (.irem, 1) := by decide +kernel
theorem dX0_lot_36 : decode cX0_lot 36 = .ok (.ireturn, 1) := by decide +kernel
set_option maxRecDepth 20000 in
theorem dX0_layDays_0 : decode cX0_layDays 0 = .ok (.iconst 0, 1) := by decide +kernel
theorem dX0_layDays_1 : decode cX0_layDays 1 = .ok (.istore_n 1, 1) := by decide +kernel
theorem dX0_layDays_2 : decode cX0_layDays 2 = .ok (.iload_n 1, 1) := by decide +kernel
theorem dX0_layDays_3 : decode cX0_layDays 3 = .ok (.sipush 366, 3) := by decide +kernel
theorem dX0_layDays_6 : decode cX0_layDays 6 = .ok (.if_icmp .ge 18, 3) := by decide +kernel
theorem dX0_layDays_9 : decode cX0_layDays 9 = .ok (.aload_n 0, 1) := by decide +kernel
theorem dX0_layDays_10 : decode cX0_layDays 10 = .ok (.getfield 35, 3) := by decide +kernel
theorem dX0_layDays_13 : decode cX0_layDays 13 = .ok (.iload_n 1, 1) := by decide +kernel
theorem dX0_layDays_14 : decode cX0_layDays 14 = .ok (.iload_n 1, 1) := by decide +kernel
theorem dX0_layDays_15 : decode cX0_layDays 15 = .ok (.invokestatic 67, 3) := by decide +kernel
theorem dX0_layDays_18 : decode cX0_layDays 18 = .ok (.iinc 1 1, 3) := by decide +kernel
theorem dX0_layDays_21 : decode cX0_layDays 21 = .ok (.goto (-19), 3) := by decide +kernel
theorem dX0_layDays_24 : decode cX0_layDays 24 = .ok (.return_, 1) := by decide +kernel
set_option maxRecDepth 20000 in
theorem dX0_shakeRow_0 : decode cX0_shakeRow 0 = .ok (.iconst 0, 1) := by decide +kernel
theorem dX0_shakeRow_1 : decode cX0_shakeRow 1 = .ok (.istore_n 1, 1) := by decide +kernel
theorem dX0_shakeRow_2 : decode cX0_shakeRow 2 = .ok (.iload_n 1, 1) := by decide +kernel
theorem dX0_shakeRow_3 : decode cX0_shakeRow 3 = .ok (.aload_n 0, 1) := by decide +kernel
theorem dX0_shakeRow_4 : decode cX0_shakeRow 4 = .ok (.getfield 15, 3) := by decide +kernel
theorem dX0_shakeRow_7 : decode cX0_shakeRow 7 = .ok (.if_icmp .ge 53, 3) := by decide +kernel
theorem dX0_shakeRow_10 : decode cX0_shakeRow 10 = .ok (.aload_n 0, 1) := by decide +kernel
theorem dX0_shakeRow_11 : decode cX0_shakeRow 11 = .ok (.sipush 366, 3) := by decide +kernel
theorem dX0_shakeRow_14 : decode cX0_shakeRow 14 = .ok (.invokevirtual 71, 3) := by decide +kernel
theorem dX0_shakeRow_17 : decode cX0_shakeRow 17 = .ok (.istore_n 2, 1) := by decide +kernel
theorem dX0_shakeRow_18 : decode cX0_shakeRow 18 = .ok (.aload_n 0, 1) := by decide +kernel
theorem dX0_shakeRow_19 : decode cX0_shakeRow 19 = .ok (.iconst 2, 1) := by decide +kernel
theorem dX0_shakeRow_20 : decode cX0_shakeRow 20 = .ok (.aload_n 0, 1) := by decide +kernel
theorem dX0_shakeRow_21 : decode cX0_shakeRow 21 = .ok (.getfield 18, 3) := by decide +kernel
theorem dX0_shakeRow_24 : decode cX0_shakeRow 24 = .ok (.imul, 1) := by decide +kernel
theorem dX0_shakeRow_25 : decode cX0_shakeRow 25 = .ok (.iconst 1, 1) := by decide +kernel
theorem dX0_shakeRow_26 : decode cX0_shakeRow 26 = .ok (.iadd, 1) := by decide +kernel
theorem dX0_shakeRow_27 : decode cX0_shakeRow 27 = .ok (.invokevirtual 71, 3) := by decide +kernel
theorem dX0_shakeRow_30 : decode cX0_shakeRow 30 = .ok (.aload_n 0, 1) := by decide +kernel
theorem dX0_shakeRow_31 : decode cX0_shakeRow 31 = .ok (.getfield 18, 3) := by decide +kernel
theorem dX0_shakeRow_34 : decode cX0_shakeRow 34 = .ok (.isub, 1) := by decide +kernel
theorem dX0_shakeRow_35 : decode cX0_shakeRow 35 = .ok (.istore_n 3, 1) := by decide +kernel
theorem dX0_shakeRow_36 : decode cX0_shakeRow 36 = .ok (.aload_n 0, 1) := by decide +kernel
theorem dX0_shakeRow_37 : decode cX0_shakeRow 37 = .ok (.iload_n 2, 1) := by decide +kernel
theorem dX0_shakeRow_38 : decode cX0_shakeRow 38 = .ok (.iconst 0, 1) := by decide +kernel
theorem dX0_shakeRow_39 : decode cX0_shakeRow 39 = .ok (.sipush 365, 3) := by decide +kernel
theorem dX0_shakeRow_42 : decode cX0_shakeRow 42 = .ok (.iload_n 2, 1) := by decide +kernel
theorem dX0_shakeRow_43 : decode cX0_shakeRow 43 = .ok (.iload_n 3, 1) := by decide +kernel
theorem dX0_shakeRow_44 : decode cX0_shakeRow 44 = .ok (.iadd, 1) := by decide +kernel
theorem dX0_shakeRow_45 : decode cX0_shakeRow 45 = .ok (.invokestatic 75, 3) := by decide +kernel
theorem dX0_shakeRow_48 : decode cX0_shakeRow 48 = .ok (.invokestatic 81, 3) := by decide +kernel
theorem dX0_shakeRow_51 : decode cX0_shakeRow 51 = .ok (.invokevirtual 84, 3) := by decide +kernel
theorem dX0_shakeRow_54 : decode cX0_shakeRow 54 = .ok (.iinc 1 1, 3) := by decide +kernel
theorem dX0_shakeRow_57 : decode cX0_shakeRow 57 = .ok (.goto (-55), 3) := by decide +kernel
theorem dX0_shakeRow_60 : decode cX0_shakeRow 60 = .ok (.return_, 1) := by decide +kernel
set_option maxRecDepth 20000 in
theorem dX0_turnRow_0 : decode cX0_turnRow 0 = .ok (.iconst 0, 1) := by decide +kernel
theorem dX0_turnRow_1 : decode cX0_turnRow 1 = .ok (.istore_n 1, 1) := by decide +kernel
theorem dX0_turnRow_2 : decode cX0_turnRow 2 = .ok (.iload_n 1, 1) := by decide +kernel
theorem dX0_turnRow_3 : decode cX0_turnRow 3 = .ok (.sipush 183, 3) := by decide +kernel
theorem dX0_turnRow_6 : decode cX0_turnRow 6 = .ok (.if_icmp .ge 19, 3) := by decide +kernel
theorem dX0_turnRow_9 : decode cX0_turnRow 9 = .ok (.aload_n 0, 1) := by decide +kernel
theorem dX0_turnRow_10 : decode cX0_turnRow 10 = .ok (.iload_n 1, 1) := by decide +kernel
theorem dX0_turnRow_11 : decode cX0_turnRow 11 = .ok (.sipush 365, 3) := by decide +kernel
theorem dX0_turnRow_14 : decode cX0_turnRow 14 = .ok (.iload_n 1, 1) := by decide +kernel
theorem dX0_turnRow_15 : decode cX0_turnRow 15 = .ok (.isub, 1) := by decide +kernel
theorem dX0_turnRow_16 : decode cX0_turnRow 16 = .ok (.invokevirtual 84, 3) := by decide +kernel
theorem dX0_turnRow_19 : decode cX0_turnRow 19 = .ok (.iinc 1 1, 3) := by decide +kernel
theorem dX0_turnRow_22 : decode cX0_turnRow 22 = .ok (.goto (-20), 3) := by decide +kernel
theorem dX0_turnRow_25 : decode cX0_turnRow 25 = .ok (.return_, 1) := by decide +kernel
set_option maxRecDepth 20000 in
theorem dX0_drawRow_0 : decode cX0_drawRow 0 = .ok (.sipush 366, 3) := by decide +kernel
theorem dX0_drawRow_3 : decode cX0_drawRow 3 = .ok (.istore_n 1, 1) := by decide +kernel
theorem dX0_drawRow_4 : decode cX0_drawRow 4 = .ok (.iload_n 1, 1) := by decide +kernel
theorem dX0_drawRow_5 : decode cX0_drawRow 5 = .ok (.ifCond .le 73, 3) := by decide +kernel
theorem dX0_drawRow_8 : decode cX0_drawRow 8 = .ok (.aload_n 0, 1) := by decide +kernel
theorem dX0_drawRow_9 : decode cX0_drawRow 9 = .ok (.aload_n 0, 1) := by decide +kernel
theorem dX0_drawRow_10 : decode cX0_drawRow 10 = .ok (.getfield 21, 3) := by decide +kernel
theorem dX0_drawRow_13 : decode cX0_drawRow 13 = .ok (.iload_n 1, 1) := by decide +kernel
theorem dX0_drawRow_14 : decode cX0_drawRow 14 = .ok (.invokestatic 75, 3) := by decide +kernel
theorem dX0_drawRow_17 : decode cX0_drawRow 17 = .ok (.invokevirtual 71, 3) := by decide +kernel
theorem dX0_drawRow_20 : decode cX0_drawRow 20 = .ok (.istore_n 2, 1) := by decide +kernel
theorem dX0_drawRow_21 : decode cX0_drawRow 21 = .ok (.iload_n 1, 1) := by decide +kernel
theorem dX0_drawRow_22 : decode cX0_drawRow 22 = .ok (.iconst 1, 1) := by decide +kernel
theorem dX0_drawRow_23 : decode cX0_drawRow 23 = .ok (.isub, 1) := by decide +kernel
theorem dX0_drawRow_24 : decode cX0_drawRow 24 = .ok (.iload_n 2, 1) := by decide +kernel
theorem dX0_drawRow_25 : decode cX0_drawRow 25 = .ok (.isub, 1) := by decide +kernel
theorem dX0_drawRow_26 : decode cX0_drawRow 26 = .ok (.istore_n 3, 1) := by decide +kernel
theorem dX0_drawRow_27 : decode cX0_drawRow 27 = .ok (.aload_n 0, 1) := by decide +kernel
theorem dX0_drawRow_28 : decode cX0_drawRow 28 = .ok (.getfield 35, 3) := by decide +kernel
theorem dX0_drawRow_31 : decode cX0_drawRow 31 = .ok (.iload_n 3, 1) := by decide +kernel
theorem dX0_drawRow_32 : decode cX0_drawRow 32 = .ok (.invokestatic 88, 3) := by decide +kernel
theorem dX0_drawRow_35 : decode cX0_drawRow 35 = .ok (.istore 4, 2) := by decide +kernel
theorem dX0_drawRow_37 : decode cX0_drawRow 37 = .ok (.sipush 367, 3) := by decide +kernel
theorem dX0_drawRow_40 : decode cX0_drawRow 40 = .ok (.iload_n 1, 1) := by decide +kernel
theorem dX0_drawRow_41 : decode cX0_drawRow 41 = .ok (.isub, 1) := by decide +kernel
theorem dX0_drawRow_42 : decode cX0_drawRow 42 = .ok (.istore 5, 2) := by decide +kernel
theorem dX0_drawRow_44 : decode cX0_drawRow 44 = .ok (.aload_n 0, 1) := by decide +kernel
theorem dX0_drawRow_45 : decode cX0_drawRow 45 = .ok (.getfield 28, 3) := by decide +kernel
theorem dX0_drawRow_48 : decode cX0_drawRow 48 = .ok (.iload 4, 2) := by decide +kernel
theorem dX0_drawRow_50 : decode cX0_drawRow 50 = .ok (.iload 5, 2) := by decide +kernel
theorem dX0_drawRow_52 : decode cX0_drawRow 52 = .ok (.invokestatic 67, 3) := by decide +kernel
theorem dX0_drawRow_55 : decode cX0_drawRow 55 = .ok (.aload_n 0, 1) := by decide +kernel
theorem dX0_drawRow_56 : decode cX0_drawRow 56 = .ok (.getfield 32, 3) := by decide +kernel
theorem dX0_drawRow_59 : decode cX0_drawRow 59 = .ok (.iload 5, 2) := by decide +kernel
theorem dX0_drawRow_61 : decode cX0_drawRow 61 = .ok (.iload 4, 2) := by decide +kernel
theorem dX0_drawRow_63 : decode cX0_drawRow 63 = .ok (.invokestatic 67, 3) := by decide +kernel
theorem dX0_drawRow_66 : decode cX0_drawRow 66 = .ok (.aload_n 0, 1) := by decide +kernel
theorem dX0_drawRow_67 : decode cX0_drawRow 67 = .ok (.iload_n 3, 1) := by decide +kernel
theorem dX0_drawRow_68 : decode cX0_drawRow 68 = .ok (.iload_n 2, 1) := by decide +kernel
theorem dX0_drawRow_69 : decode cX0_drawRow 69 = .ok (.invokevirtual 92, 3) := by decide +kernel
theorem dX0_drawRow_72 : decode cX0_drawRow 72 = .ok (.iinc 1 (-1), 3) := by decide +kernel
theorem dX0_drawRow_75 : decode cX0_drawRow 75 = .ok (.goto (-71), 3) := by decide +kernel
theorem dX0_drawRow_78 : decode cX0_drawRow 78 = .ok (.return_, 1) := by decide +kernel
set_option maxRecDepth 20000 in
theorem dX0_swap_0 : decode cX0_swap 0 = .ok (.aload_n 0, 1) := by decide +kernel
theorem dX0_swap_1 : decode cX0_swap 1 = .ok (.getfield 35, 3) := by decide +kernel
theorem dX0_swap_4 : decode cX0_swap 4 = .ok (.iload_n 1, 1) := by decide +kernel
theorem dX0_swap_5 : decode cX0_swap 5 = .ok (.invokestatic 88, 3) := by decide +kernel
theorem dX0_swap_8 : decode cX0_swap 8 = .ok (.istore_n 3, 1) := by decide +kernel
theorem dX0_swap_9 : decode cX0_swap 9 = .ok (.aload_n 0, 1) := by decide +kernel
theorem dX0_swap_10 : decode cX0_swap 10 = .ok (.getfield 35, 3) := by decide +kernel
theorem dX0_swap_13 : decode cX0_swap 13 = .ok (.iload_n 1, 1) := by decide +kernel
theorem dX0_swap_14 : decode cX0_swap 14 = .ok (.aload_n 0, 1) := by decide +kernel
theorem dX0_swap_15 : decode cX0_swap 15 = .ok (.getfield 35, 3) := by decide +kernel
theorem dX0_swap_18 : decode cX0_swap 18 = .ok (.iload_n 2, 1) := by decide +kernel
theorem dX0_swap_19 : decode cX0_swap 19 = .ok (.invokestatic 88, 3) := by decide +kernel
theorem dX0_swap_22 : decode cX0_swap 22 = .ok (.invokestatic 67, 3) := by decide +kernel
theorem dX0_swap_25 : decode cX0_swap 25 = .ok (.aload_n 0, 1) := by decide +kernel
theorem dX0_swap_26 : decode cX0_swap 26 = .ok (.getfield 35, 3) := by decide +kernel
theorem dX0_swap_29 : decode cX0_swap 29 = .ok (.iload_n 2, 1) := by decide +kernel
theorem dX0_swap_30 : decode cX0_swap 30 = .ok (.iload_n 3, 1) := by decide +kernel
theorem dX0_swap_31 : decode cX0_swap 31 = .ok (.invokestatic 67, 3) := by decide +kernel
theorem dX0_swap_34 : decode cX0_swap 34 = .ok (.return_, 1) := by decide +kernel
theorem dX0_closeGap_0 : decode cX0_closeGap 0 = .ok (.iload_n 1, 1) := by decide +kernel
theorem dX0_closeGap_1 : decode cX0_closeGap 1 = .ok (.ifCond .lt 32, 3) := by decide +kernel
theorem dX0_closeGap_4 : decode cX0_closeGap 4 = .ok (.iload_n 2, 1) := by decide +kernel
theorem dX0_closeGap_5 : decode cX0_closeGap 5 = .ok (.ifCond .le 28, 3) := by decide +kernel
theorem dX0_closeGap_8 : decode cX0_closeGap 8 = .ok (.iload_n 2, 1) := by decide +kernel
theorem dX0_closeGap_9 : decode cX0_closeGap 9 = .ok (.sipush 366, 3) := by decide +kernel
theorem dX0_closeGap_12 : decode cX0_closeGap 12 = .ok (.iload_n 1, 1) := by decide +kernel
theorem dX0_closeGap_13 : decode cX0_closeGap 13 = .ok (.isub, 1) := by decide +kernel
theorem dX0_closeGap_14 : decode cX0_closeGap 14 = .ok (.if_icmp .ge 19, 3) := by decide +kernel
theorem dX0_closeGap_17 : decode cX0_closeGap 17 = .ok (.aload_n 0, 1) := by decide +kernel
theorem dX0_closeGap_18 : decode cX0_closeGap 18 = .ok (.getfield 35, 3) := by decide +kernel
theorem dX0_closeGap_21 : decode cX0_closeGap 21 = .ok (.iload_n 1, 1) := by decide +kernel
theorem dX0_closeGap_22 : decode cX0_closeGap 22 = .ok (.iconst 1, 1) := by decide +kernel
theorem dX0_closeGap_23 : decode cX0_closeGap 23 = .ok (.iadd, 1) := by decide +kernel
theorem dX0_closeGap_24 : decode cX0_closeGap 24 = .ok (.aload_n 0, 1) := by decide +kernel
theorem dX0_closeGap_25 : decode cX0_closeGap 25 = .ok (.getfield 35, 3) := by decide +kernel
theorem dX0_closeGap_28 : decode cX0_closeGap 28 = .ok (.iload_n 1, 1) := by decide +kernel
theorem dX0_closeGap_29 : decode cX0_closeGap 29 = .ok (.iload_n 2, 1) := by decide +kernel
theorem dX0_closeGap_30 : decode cX0_closeGap 30 = .ok (.invokestatic 95, 3) := by decide +kernel
theorem dX0_closeGap_33 : decode cX0_closeGap 33 = .ok (.return_, 1) := by decide +kernel
set_option maxRecDepth 20000 in
theorem dX0_numberAt_0 : decode cX0_numberAt 0 = .ok (.aload_n 0, 1) := by decide +kernel
theorem dX0_numberAt_1 : decode cX0_numberAt 1 = .ok (.getfield 28, 3) := by decide +kernel
theorem dX0_numberAt_4 : decode cX0_numberAt 4 = .ok (.iload_n 1, 1) := by decide +kernel
theorem dX0_numberAt_5 : decode cX0_numberAt 5 = .ok (.invokestatic 88, 3) := by decide +kernel
theorem dX0_numberAt_8 : decode cX0_numberAt 8 = .ok (.ireturn, 1) := by decide +kernel
set_option maxRecDepth 20000 in
theorem dX0_dayAt_0 : decode cX0_dayAt 0 = .ok (.aload_n 0, 1) := by decide +kernel
theorem dX0_dayAt_1 : decode cX0_dayAt 1 = .ok (.getfield 32, 3) := by decide +kernel
theorem dX0_dayAt_4 : decode cX0_dayAt 4 = .ok (.iload_n 1, 1) := by decide +kernel
theorem dX0_dayAt_5 : decode cX0_dayAt 5 = .ok (.invokestatic 88, 3) := by decide +kernel
theorem dX0_dayAt_8 : decode cX0_dayAt 8 = .ok (.ireturn, 1) := by decide +kernel
set_option maxRecDepth 20000 in
theorem dX0_monthSum_0 : decode cX0_monthSum 0 = .ok (.iconst 0, 1) := by decide +kernel
theorem dX0_monthSum_1 : decode cX0_monthSum 1 = .ok (.istore_n 2, 1) := by decide +kernel
theorem dX0_monthSum_2 : decode cX0_monthSum 2 = .ok (.getstatic 101, 3) := by decide +kernel
theorem dX0_monthSum_5 : decode cX0_monthSum 5 = .ok (.iload_n 1, 1) := by decide +kernel
theorem dX0_monthSum_6 : decode cX0_monthSum 6 = .ok (.invokestatic 88, 3) := by decide +kernel
theorem dX0_monthSum_9 : decode cX0_monthSum 9 = .ok (.istore_n 3, 1) := by decide +kernel
theorem dX0_monthSum_10 : decode cX0_monthSum 10 = .ok (.iload_n 3, 1) := by decide +kernel
theorem dX0_monthSum_11 : decode cX0_monthSum 11 = .ok (.getstatic 101, 3) := by decide +kernel
theorem dX0_monthSum_14 : decode cX0_monthSum 14 = .ok (.iload_n 1, 1) := by decide +kernel
theorem dX0_monthSum_15 : decode cX0_monthSum 15 = .ok (.iconst 1, 1) := by decide +kernel
theorem dX0_monthSum_16 : decode cX0_monthSum 16 = .ok (.iadd, 1) := by decide +kernel
theorem dX0_monthSum_17 : decode cX0_monthSum 17 = .ok (.invokestatic 88, 3) := by decide +kernel
theorem dX0_monthSum_20 : decode cX0_monthSum 20 = .ok (.if_icmp .ge 17, 3) := by decide +kernel
theorem dX0_monthSum_23 : decode cX0_monthSum 23 = .ok (.iload_n 2, 1) := by decide +kernel
theorem dX0_monthSum_24 : decode cX0_monthSum 24 = .ok (.aload_n 0, 1) := by decide +kernel
theorem dX0_monthSum_25 : decode cX0_monthSum 25 = .ok (.iload_n 3, 1) := by decide +kernel
theorem dX0_monthSum_26 : decode cX0_monthSum 26 = .ok (.invokevirtual 104, 3) := by decide +kernel
theorem dX0_monthSum_29 : decode cX0_monthSum 29 = .ok (.iadd, 1) := by decide +kernel
theorem dX0_monthSum_30 : decode cX0_monthSum 30 = .ok (.istore_n 2, 1) := by decide +kernel
theorem dX0_monthSum_31 : decode cX0_monthSum 31 = .ok (.iinc 3 1, 3) := by decide +kernel
theorem dX0_monthSum_34 : decode cX0_monthSum 34 = .ok (.goto (-24), 3) := by decide +kernel
theorem dX0_monthSum_37 : decode cX0_monthSum 37 = .ok (.iload_n 2, 1) := by decide +kernel
theorem dX0_monthSum_38 : decode cX0_monthSum 38 = .ok (.ireturn, 1) := by decide +kernel
set_option maxRecDepth 20000 in
theorem dX0_leaning_0 : decode cX0_leaning 0 = .ok (.lconst 0, 1) := by decide +kernel
theorem dX0_leaning_1 : decode cX0_leaning 1 = .ok (.lstore_n 1, 1) := by decide +kernel
theorem dX0_leaning_2 : decode cX0_leaning 2 = .ok (.iconst 0, 1) := by decide +kernel
theorem dX0_leaning_3 : decode cX0_leaning 3 = .ok (.istore_n 3, 1) := by decide +kernel
theorem dX0_leaning_4 : decode cX0_leaning 4 = .ok (.iload_n 3, 1) := by decide +kernel
theorem dX0_leaning_5 : decode cX0_leaning 5 = .ok (.sipush 366, 3) := by decide +kernel
theorem dX0_leaning_8 : decode cX0_leaning 8 = .ok (.if_icmp .ge 37, 3) := by decide +kernel
theorem dX0_leaning_11 : decode cX0_leaning 11 = .ok (.lload_n 1, 1) := by decide +kernel
theorem dX0_leaning_12 : decode cX0_leaning 12 = .ok (.ldc2_w 107, 3) := by decide +kernel
theorem dX0_leaning_15 : decode cX0_leaning 15 = .ok (.iload_n 3, 1) := by decide +kernel
theorem dX0_leaning_16 : decode cX0_leaning 16 = .ok (.i2l, 1) := by decide +kernel
theorem dX0_leaning_17 : decode cX0_leaning 17 = .ok (.lmul, 1) := by decide +kernel
theorem dX0_leaning_18 : decode cX0_leaning 18 = .ok (.ldc2_w 109, 3) := by decide +kernel
theorem dX0_leaning_21 : decode cX0_leaning 21 = .ok (.lsub, 1) := by decide +kernel
theorem dX0_leaning_22 : decode cX0_leaning 22 = .ok (.ldc2_w 107, 3) := by decide +kernel
theorem dX0_leaning_25 : decode cX0_leaning 25 = .ok (.aload_n 0, 1) := by decide +kernel
theorem dX0_leaning_26 : decode cX0_leaning 26 = .ok (.iload_n 3, 1) := by decide +kernel
theorem dX0_leaning_27 : decode cX0_leaning 27 = .ok (.invokevirtual 104, 3) := by decide +kernel
theorem dX0_leaning_30 : decode cX0_leaning 30 = .ok (.i2l, 1) := by decide +kernel
theorem dX0_leaning_31 : decode cX0_leaning 31 = .ok (.lmul, 1) := by decide +kernel
theorem dX0_leaning_32 : decode cX0_leaning 32 = .ok (.ldc2_w 111, 3) := by decide +kernel
theorem dX0_leaning_35 : decode cX0_leaning 35 = .ok (.lsub, 1) := by decide +kernel
theorem dX0_leaning_36 : decode cX0_leaning 36 = .ok (.lmul, 1) := by decide +kernel
theorem dX0_leaning_37 : decode cX0_leaning 37 = .ok (.ladd, 1) := by decide +kernel
theorem dX0_leaning_38 : decode cX0_leaning 38 = .ok (.lstore_n 1, 1) := by decide +kernel
theorem dX0_leaning_39 : decode cX0_leaning 39 = .ok (.iinc 3 1, 3) := by decide +kernel
theorem dX0_leaning_42 : decode cX0_leaning 42 = .ok (.goto (-38), 3) := by decide +kernel
theorem dX0_leaning_45 : decode cX0_leaning 45 = .ok (.lload_n 1, 1) := by decide +kernel
theorem dX0_leaning_46 : decode cX0_leaning 46 = .ok (.lreturn, 1) := by decide +kernel
set_option maxRecDepth 20000 in
theorem dX0_worstMonth_0 : decode cX0_worstMonth 0 = .ok (.iconst 0, 1) := by decide +kernel
theorem dX0_worstMonth_1 : decode cX0_worstMonth 1 = .ok (.istore_n 1, 1) := by decide +kernel
theorem dX0_worstMonth_2 : decode cX0_worstMonth 2 = .ok (.iconst 1, 1) := by decide +kernel
theorem dX0_worstMonth_3 : decode cX0_worstMonth 3 = .ok (.istore_n 2, 1) := by decide +kernel
theorem dX0_worstMonth_4 : decode cX0_worstMonth 4 = .ok (.iload_n 2, 1) := by decide +kernel
theorem dX0_worstMonth_5 : decode cX0_worstMonth 5 = .ok (.bipush 12, 2) := by decide +kernel
theorem dX0_worstMonth_7 : decode cX0_worstMonth 7 = .ok (.if_icmp .ge 37, 3) := by decide +kernel
theorem dX0_worstMonth_10 : decode cX0_worstMonth 10 = .ok (.aload_n 0, 1) := by decide +kernel
theorem dX0_worstMonth_11 : decode cX0_worstMonth 11 = .ok (.iload_n 2, 1) := by decide +kernel
theorem dX0_worstMonth_12 : decode cX0_worstMonth 12 = .ok (.invokevirtual 113, 3) := by decide +kernel
theorem dX0_worstMonth_15 : decode cX0_worstMonth 15 = .ok (.iload_n 1, 1) := by decide +kernel
theorem dX0_worstMonth_16 : decode cX0_worstMonth 16 = .ok (.invokestatic 117, 3) := by decide +kernel
theorem dX0_worstMonth_19 : decode cX0_worstMonth 19 = .ok (.i2l, 1) := by decide +kernel
theorem dX0_worstMonth_20 : decode cX0_worstMonth 20 = .ok (.lmul, 1) := by decide +kernel
theorem dX0_worstMonth_21 : decode cX0_worstMonth 21 = .ok (.aload_n 0, 1) := by decide +kernel
theorem dX0_worstMonth_22 : decode cX0_worstMonth 22 = .ok (.iload_n 1, 1) := by decide +kernel
theorem dX0_worstMonth_23 : decode cX0_worstMonth 23 = .ok (.invokevirtual 113, 3) := by decide +kernel
theorem dX0_worstMonth_26 : decode cX0_worstMonth 26 = .ok (.iload_n 2, 1) := by decide +kernel
theorem dX0_worstMonth_27 : decode cX0_worstMonth 27 = .ok (.invokestatic 117, 3) := by decide +kernel
theorem dX0_worstMonth_30 : decode cX0_worstMonth 30 = .ok (.i2l, 1) := by decide +kernel
theorem dX0_worstMonth_31 : decode cX0_worstMonth 31 = .ok (.lmul, 1) := by decide +kernel
theorem dX0_worstMonth_32 : decode cX0_worstMonth 32 = .ok (.lcmp, 1) := by decide +kernel
theorem dX0_worstMonth_33 : decode cX0_worstMonth 33 = .ok (.ifCond .le 5, 3) := by decide +kernel
theorem dX0_worstMonth_36 : decode cX0_worstMonth 36 = .ok (.iload_n 2, 1) := by decide +kernel
theorem dX0_worstMonth_37 : decode cX0_worstMonth 37 = .ok (.istore_n 1, 1) := by decide +kernel
theorem dX0_worstMonth_38 : decode cX0_worstMonth 38 = .ok (.iinc 2 1, 3) := by decide +kernel
theorem dX0_worstMonth_41 : decode cX0_worstMonth 41 = .ok (.goto (-37), 3) := by decide +kernel
theorem dX0_worstMonth_44 : decode cX0_worstMonth 44 = .ok (.iload_n 1, 1) := by decide +kernel
theorem dX0_worstMonth_45 : decode cX0_worstMonth 45 = .ok (.ireturn, 1) := by decide +kernel
set_option maxRecDepth 20000 in
theorem dX0_monthDistance_0 : decode cX0_monthDistance 0 = .ok (.ldc2_w 107, 3) := by decide +kernel
theorem dX0_monthDistance_3 : decode cX0_monthDistance 3 = .ok (.aload_n 0, 1) := by decide +kernel
theorem dX0_monthDistance_4 : decode cX0_monthDistance 4 = .ok (.iload_n 1, 1) := by decide +kernel
theorem dX0_monthDistance_5 : decode cX0_monthDistance 5 = .ok (.invokevirtual 120, 3) := by decide +kernel
theorem dX0_monthDistance_8 : decode cX0_monthDistance 8 = .ok (.i2l, 1) := by decide +kernel
theorem dX0_monthDistance_9 : decode cX0_monthDistance 9 = .ok (.lmul, 1) := by decide +kernel
theorem dX0_monthDistance_10 : decode cX0_monthDistance 10 = .ok (.ldc2_w 111, 3) := by decide +kernel
theorem dX0_monthDistance_13 : decode cX0_monthDistance 13 = .ok (.iload_n 1, 1) := by decide +kernel
theorem dX0_monthDistance_14 : decode cX0_monthDistance 14 = .ok (.invokestatic 117, 3) := by decide +kernel
theorem dX0_monthDistance_17 : decode cX0_monthDistance 17 = .ok (.i2l, 1) := by decide +kernel
theorem dX0_monthDistance_18 : decode cX0_monthDistance 18 = .ok (.lmul, 1) := by decide +kernel
theorem dX0_monthDistance_19 : decode cX0_monthDistance 19 = .ok (.lsub, 1) := by decide +kernel
theorem dX0_monthDistance_20 : decode cX0_monthDistance 20 = .ok (.invokestatic 123, 3) := by decide +kernel
theorem dX0_monthDistance_23 : decode cX0_monthDistance 23 = .ok (.lreturn, 1) := by decide +kernel
set_option maxRecDepth 20000 in
theorem dX0_turnedPairs_0 : decode cX0_turnedPairs 0 = .ok (.aload_n 0, 1) := by decide +kernel
theorem dX0_turnedPairs_1 : decode cX0_turnedPairs 1 = .ok (.getfield 38, 3) := by decide +kernel
theorem dX0_turnedPairs_4 : decode cX0_turnedPairs 4 = .ok (.lconst 0, 1) := by decide +kernel
theorem dX0_turnedPairs_5 : decode cX0_turnedPairs 5 = .ok (.invokestatic 127, 3) := by decide +kernel
theorem dX0_turnedPairs_8 : decode cX0_turnedPairs 8 = .ok (.iconst 0, 1) := by decide +kernel
theorem dX0_turnedPairs_9 : decode cX0_turnedPairs 9 = .ok (.istore_n 1, 1) := by decide +kernel
theorem dX0_turnedPairs_10 : decode cX0_turnedPairs 10 = .ok (.iconst 0, 1) := by decide +kernel
theorem dX0_turnedPairs_11 : decode cX0_turnedPairs 11 = .ok (.istore_n 2, 1) := by decide +kernel
theorem dX0_turnedPairs_12 : decode cX0_turnedPairs 12 = .ok (.iload_n 2, 1) := by decide +kernel
theorem dX0_turnedPairs_13 : decode cX0_turnedPairs 13 = .ok (.sipush 366, 3) := by decide +kernel
theorem dX0_turnedPairs_16 : decode cX0_turnedPairs 16 = .ok (.if_icmp .ge 28, 3) := by decide +kernel
theorem dX0_turnedPairs_19 : decode cX0_turnedPairs 19 = .ok (.aload_n 0, 1) := by decide +kernel
theorem dX0_turnedPairs_20 : decode cX0_turnedPairs 20 = .ok (.iload_n 2, 1) := by decide +kernel
theorem dX0_turnedPairs_21 : decode cX0_turnedPairs 21 = .ok (.invokevirtual 104, 3) := by decide +kernel
theorem dX0_turnedPairs_24 : decode cX0_turnedPairs 24 = .ok (.istore_n 3, 1) := by decide +kernel
theorem dX0_turnedPairs_25 : decode cX0_turnedPairs 25 = .ok (.iload_n 1, 1) := by decide +kernel
theorem dX0_turnedPairs_26 : decode cX0_turnedPairs 26 = .ok (.aload_n 0, 1) := by decide +kernel
theorem dX0_turnedPairs_27 : decode cX0_turnedPairs 27 = .ok (.iload_n 3, 1) := by decide +kernel
theorem dX0_turnedPairs_28 : decode cX0_turnedPairs 28 = .ok (.invokevirtual 133, 3) := by decide +kernel
theorem dX0_turnedPairs_31 : decode cX0_turnedPairs 31 = .ok (.iadd, 1) := by decide +kernel
theorem dX0_turnedPairs_32 : decode cX0_turnedPairs 32 = .ok (.istore_n 1, 1) := by decide +kernel
theorem dX0_turnedPairs_33 : decode cX0_turnedPairs 33 = .ok (.aload_n 0, 1) := by decide +kernel
theorem dX0_turnedPairs_34 : decode cX0_turnedPairs 34 = .ok (.iload_n 3, 1) := by decide +kernel
theorem dX0_turnedPairs_35 : decode cX0_turnedPairs 35 = .ok (.invokevirtual 136, 3) := by decide +kernel
theorem dX0_turnedPairs_38 : decode cX0_turnedPairs 38 = .ok (.iinc 2 1, 3) := by decide +kernel
theorem dX0_turnedPairs_41 : decode cX0_turnedPairs 41 = .ok (.goto (-29), 3) := by decide +kernel
theorem dX0_turnedPairs_44 : decode cX0_turnedPairs 44 = .ok (.iload_n 1, 1) := by decide +kernel
theorem dX0_turnedPairs_45 : decode cX0_turnedPairs 45 = .ok (.ireturn, 1) := by decide +kernel
set_option maxRecDepth 20000 in
theorem dX0_seenAbove_0 : decode cX0_seenAbove 0 = .ok (.iload_n 1, 1) := by decide +kernel
theorem dX0_seenAbove_1 : decode cX0_seenAbove 1 = .ok (.bipush 6, 2) := by decide +kernel
theorem dX0_seenAbove_3 : decode cX0_seenAbove 3 = .ok (.ishr, 1) := by decide +kernel
theorem dX0_seenAbove_4 : decode cX0_seenAbove 4 = .ok (.istore_n 2, 1) := by decide +kernel
theorem dX0_seenAbove_5 : decode cX0_seenAbove 5 = .ok (.iload_n 2, 1) := by decide +kernel
theorem dX0_seenAbove_6 : decode cX0_seenAbove 6 = .ok (.ifCond .lt 12, 3) := by decide +kernel
theorem dX0_seenAbove_9 : decode cX0_seenAbove 9 = .ok (.iload_n 2, 1) := by decide +kernel
theorem dX0_seenAbove_10 : decode cX0_seenAbove 10 = .ok (.aload_n 0, 1) := by decide +kernel
theorem dX0_seenAbove_11 : decode cX0_seenAbove 11 = .ok (.getfield 38, 3) := by decide +kernel
theorem dX0_seenAbove_14 : decode cX0_seenAbove 14 = .ok (.arraylength, 1) := by decide +kernel
theorem dX0_seenAbove_15 : decode cX0_seenAbove 15 = .ok (.if_icmp .lt 5, 3) := by decide +kernel
theorem dX0_seenAbove_18 : decode cX0_seenAbove 18 = .ok (.iconst 0, 1) := by decide +kernel
theorem dX0_seenAbove_19 : decode cX0_seenAbove 19 = .ok (.ireturn, 1) := by decide +kernel
theorem dX0_seenAbove_20 : decode cX0_seenAbove 20 = .ok (.aload_n 0, 1) := by decide +kernel
theorem dX0_seenAbove_21 : decode cX0_seenAbove 21 = .ok (.getfield 38, 3) := by decide +kernel
theorem dX0_seenAbove_24 : decode cX0_seenAbove 24 = .ok (.iload_n 2, 1) := by decide +kernel
theorem dX0_seenAbove_25 : decode cX0_seenAbove 25 = .ok (.laload, 1) := by decide +kernel
theorem dX0_seenAbove_26 : decode cX0_seenAbove 26 = .ok (.iload_n 1, 1) := by decide +kernel
theorem dX0_seenAbove_27 : decode cX0_seenAbove 27 = .ok (.bipush 63, 2) := by decide +kernel
theorem dX0_seenAbove_29 : decode cX0_seenAbove 29 = .ok (.iand, 1) := by decide +kernel
theorem dX0_seenAbove_30 : decode cX0_seenAbove 30 = .ok (.lushr, 1) := by decide +kernel
theorem dX0_seenAbove_31 : decode cX0_seenAbove 31 = .ok (.iconst 1, 1) := by decide +kernel
theorem dX0_seenAbove_32 : decode cX0_seenAbove 32 = .ok (.lushr, 1) := by decide +kernel
theorem dX0_seenAbove_33 : decode cX0_seenAbove 33 = .ok (.invokestatic 140, 3) := by decide +kernel
theorem dX0_seenAbove_36 : decode cX0_seenAbove 36 = .ok (.istore_n 3, 1) := by decide +kernel
theorem dX0_seenAbove_37 : decode cX0_seenAbove 37 = .ok (.iload_n 2, 1) := by decide +kernel
theorem dX0_seenAbove_38 : decode cX0_seenAbove 38 = .ok (.iconst 1, 1) := by decide +kernel
theorem dX0_seenAbove_39 : decode cX0_seenAbove 39 = .ok (.iadd, 1) := by decide +kernel
theorem dX0_seenAbove_40 : decode cX0_seenAbove 40 = .ok (.istore 4, 2) := by decide +kernel
theorem dX0_seenAbove_42 : decode cX0_seenAbove 42 = .ok (.iload 4, 2) := by decide +kernel
theorem dX0_seenAbove_44 : decode cX0_seenAbove 44 = .ok (.aload_n 0, 1) := by decide +kernel
theorem dX0_seenAbove_45 : decode cX0_seenAbove 45 = .ok (.getfield 38, 3) := by decide +kernel
theorem dX0_seenAbove_48 : decode cX0_seenAbove 48 = .ok (.arraylength, 1) := by decide +kernel
theorem dX0_seenAbove_49 : decode cX0_seenAbove 49 = .ok (.if_icmp .ge 22, 3) := by decide +kernel
theorem dX0_seenAbove_52 : decode cX0_seenAbove 52 = .ok (.iload_n 3, 1) := by decide +kernel
theorem dX0_seenAbove_53 : decode cX0_seenAbove 53 = .ok (.aload_n 0, 1) := by decide +kernel
theorem dX0_seenAbove_54 : decode cX0_seenAbove 54 = .ok (.getfield 38, 3) := by decide +kernel
theorem dX0_seenAbove_57 : decode cX0_seenAbove 57 = .ok (.iload 4, 2) := by decide +kernel
theorem dX0_seenAbove_59 : decode cX0_seenAbove 59 = .ok (.laload, 1) := by decide +kernel
theorem dX0_seenAbove_60 : decode cX0_seenAbove 60 = .ok (.invokestatic 140, 3) := by decide +kernel
theorem dX0_seenAbove_63 : decode cX0_seenAbove 63 = .ok (.iadd, 1) := by decide +kernel
theorem dX0_seenAbove_64 : decode cX0_seenAbove 64 = .ok (.istore_n 3, 1) := by decide +kernel
theorem dX0_seenAbove_65 : decode cX0_seenAbove 65 = .ok (.iinc 4 1, 3) := by decide +kernel
theorem dX0_seenAbove_68 : decode cX0_seenAbove 68 = .ok (.goto (-26), 3) := by decide +kernel
theorem dX0_seenAbove_71 : decode cX0_seenAbove 71 = .ok (.iload_n 3, 1) := by decide +kernel
theorem dX0_seenAbove_72 : decode cX0_seenAbove 72 = .ok (.ireturn, 1) := by decide +kernel
theorem dX0_markSeen_0 : decode cX0_markSeen 0 = .ok (.iload_n 1, 1) := by decide +kernel
theorem dX0_markSeen_1 : decode cX0_markSeen 1 = .ok (.bipush 6, 2) := by decide +kernel
theorem dX0_markSeen_3 : decode cX0_markSeen 3 = .ok (.ishr, 1) := by decide +kernel
theorem dX0_markSeen_4 : decode cX0_markSeen 4 = .ok (.istore_n 2, 1) := by decide +kernel
theorem dX0_markSeen_5 : decode cX0_markSeen 5 = .ok (.iload_n 2, 1) := by decide +kernel
theorem dX0_markSeen_6 : decode cX0_markSeen 6 = .ok (.ifCond .lt 27, 3) := by decide +kernel
theorem dX0_markSeen_9 : decode cX0_markSeen 9 = .ok (.iload_n 2, 1) := by decide +kernel
theorem dX0_markSeen_10 : decode cX0_markSeen 10 = .ok (.aload_n 0, 1) := by decide +kernel
theorem dX0_markSeen_11 : decode cX0_markSeen 11 = .ok (.getfield 38, 3) := by decide +kernel
theorem dX0_markSeen_14 : decode cX0_markSeen 14 = .ok (.arraylength, 1) := by decide +kernel
theorem dX0_markSeen_15 : decode cX0_markSeen 15 = .ok (.if_icmp .ge 18, 3) := by decide +kernel
theorem dX0_markSeen_18 : decode cX0_markSeen 18 = .ok (.aload_n 0, 1) := by decide +kernel
theorem dX0_markSeen_19 : decode cX0_markSeen 19 = .ok (.getfield 38, 3) := by decide +kernel
theorem dX0_markSeen_22 : decode cX0_markSeen 22 = .ok (.iload_n 2, 1) := by decide +kernel
theorem dX0_markSeen_23 : decode cX0_markSeen 23 = .ok (.dup2, 1) := by decide +kernel
theorem dX0_markSeen_24 : decode cX0_markSeen 24 = .ok (.laload, 1) := by decide +kernel
theorem dX0_markSeen_25 : decode cX0_markSeen 25 = .ok (.lconst 1, 1) := by decide +kernel
theorem dX0_markSeen_26 : decode cX0_markSeen 26 = .ok (.iload_n 1, 1) := by decide +kernel
theorem dX0_markSeen_27 : decode cX0_markSeen 27 = .ok (.bipush 63, 2) := by decide +kernel
theorem dX0_markSeen_29 : decode cX0_markSeen 29 = .ok (.iand, 1) := by decide +kernel
theorem dX0_markSeen_30 : decode cX0_markSeen 30 = .ok (.lshl, 1) := by decide +kernel
theorem dX0_markSeen_31 : decode cX0_markSeen 31 = .ok (.lor, 1) := by decide +kernel
theorem dX0_markSeen_32 : decode cX0_markSeen 32 = .ok (.lastore, 1) := by decide +kernel
theorem dX0_markSeen_33 : decode cX0_markSeen 33 = .ok (.return_, 1) := by decide +kernel
set_option maxRecDepth 20000 in
theorem dX1_init_0 : decode cX1_init 0 = .ok (.aload_n 0, 1) := by decide +kernel
theorem dX1_init_1 : decode cX1_init 1 = .ok (.invokespecial 3, 3) := by decide +kernel
theorem dX1_init_4 : decode cX1_init 4 = .ok (.aload_n 0, 1) := by decide +kernel
theorem dX1_init_5 : decode cX1_init 5 = .ok (.new 9, 3) := by decide +kernel
theorem dX1_init_8 : decode cX1_init 8 = .ok (.dup, 1) := by decide +kernel
theorem dX1_init_9 : decode cX1_init 9 = .ok (.invokespecial 11, 3) := by decide +kernel
theorem dX1_init_12 : decode cX1_init 12 = .ok (.putfield 12, 3) := by decide +kernel
theorem dX1_init_15 : decode cX1_init 15 = .ok (.aload_n 0, 1) := by decide +kernel
theorem dX1_init_16 : decode cX1_init 16 = .ok (.new 9, 3) := by decide +kernel
theorem dX1_init_19 : decode cX1_init 19 = .ok (.dup, 1) := by decide +kernel
theorem dX1_init_20 : decode cX1_init 20 = .ok (.invokespecial 11, 3) := by decide +kernel
theorem dX1_init_23 : decode cX1_init 23 = .ok (.putfield 18, 3) := by decide +kernel
theorem dX1_init_26 : decode cX1_init 26 = .ok (.aload_n 0, 1) := by decide +kernel
theorem dX1_init_27 : decode cX1_init 27 = .ok (.new 21, 3) := by decide +kernel
theorem dX1_init_30 : decode cX1_init 30 = .ok (.dup, 1) := by decide +kernel
theorem dX1_init_31 : decode cX1_init 31 = .ok (.invokespecial 23, 3) := by decide +kernel
theorem dX1_init_34 : decode cX1_init 34 = .ok (.putfield 24, 3) := by decide +kernel
theorem dX1_init_37 : decode cX1_init 37 = .ok (.aload_n 0, 1) := by decide +kernel
theorem dX1_init_38 : decode cX1_init 38 = .ok (.getstatic 28, 3) := by decide +kernel
theorem dX1_init_41 : decode cX1_init 41 = .ok (.invokevirtual 32, 3) := by decide +kernel
theorem dX1_init_44 : decode cX1_init 44 = .ok (.checkcast 33, 3) := by decide +kernel
theorem dX1_init_47 : decode cX1_init 47 = .ok (.putfield 37, 3) := by decide +kernel
theorem dX1_init_50 : decode cX1_init 50 = .ok (.aload_n 0, 1) := by decide +kernel
theorem dX1_init_51 : decode cX1_init 51 = .ok (.sipush 195, 3) := by decide +kernel
theorem dX1_init_54 : decode cX1_init 54 = .ok (.putfield 40, 3) := by decide +kernel
theorem dX1_init_57 : decode cX1_init 57 = .ok (.aload_n 0, 1) := by decide +kernel
theorem dX1_init_58 : decode cX1_init 58 = .ok (.iconst 3, 1) := by decide +kernel
theorem dX1_init_59 : decode cX1_init 59 = .ok (.putfield 44, 3) := by decide +kernel
theorem dX1_init_62 : decode cX1_init 62 = .ok (.aload_n 0, 1) := by decide +kernel
theorem dX1_init_63 : decode cX1_init 63 = .ok (.new 47, 3) := by decide +kernel
theorem dX1_init_66 : decode cX1_init 66 = .ok (.dup, 1) := by decide +kernel
theorem dX1_init_67 : decode cX1_init 67 = .ok (.invokespecial 49, 3) := by decide +kernel
theorem dX1_init_70 : decode cX1_init 70 = .ok (.putfield 50, 3) := by decide +kernel
theorem dX1_init_73 : decode cX1_init 73 = .ok (.aload_n 0, 1) := by decide +kernel
theorem dX1_init_74 : decode cX1_init 74 = .ok (.new 54, 3) := by decide +kernel
theorem dX1_init_77 : decode cX1_init 77 = .ok (.dup, 1) := by decide +kernel
theorem dX1_init_78 : decode cX1_init 78 = .ok (.invokespecial 56, 3) := by decide +kernel
theorem dX1_init_81 : decode cX1_init 81 = .ok (.putfield 57, 3) := by decide +kernel
theorem dX1_init_84 : decode cX1_init 84 = .ok (.return_, 1) := by decide +kernel
set_option maxRecDepth 20000 in
theorem dX1_copyLottery_0 : decode cX1_copyLottery 0 = .ok (.aload_n 0, 1) := by decide +kernel
theorem dX1_copyLottery_1 : decode cX1_copyLottery 1 = .ok (.getfield 12, 3) := by decide +kernel
theorem dX1_copyLottery_4 : decode cX1_copyLottery 4 = .ok (.aload_n 1, 1) := by decide +kernel
theorem dX1_copyLottery_5 : decode cX1_copyLottery 5 = .ok (.getfield 12, 3) := by decide +kernel
theorem dX1_copyLottery_8 : decode cX1_copyLottery 8 = .ok (.invokevirtual 61, 3) := by decide +kernel
theorem dX1_copyLottery_11 : decode cX1_copyLottery 11 = .ok (.aload_n 0, 1) := by decide +kernel
theorem dX1_copyLottery_12 : decode cX1_copyLottery 12 = .ok (.getfield 18, 3) := by decide +kernel
theorem dX1_copyLottery_15 : decode cX1_copyLottery 15 = .ok (.aload_n 1, 1) := by decide +kernel
theorem dX1_copyLottery_16 : decode cX1_copyLottery 16 = .ok (.getfield 18, 3) := by decide +kernel
theorem dX1_copyLottery_19 : decode cX1_copyLottery 19 = .ok (.invokevirtual 61, 3) := by decide +kernel
theorem dX1_copyLottery_22 : decode cX1_copyLottery 22 = .ok (.aload_n 0, 1) := by decide +kernel
theorem dX1_copyLottery_23 : decode cX1_copyLottery 23 = .ok (.getfield 24, 3) := by decide +kernel
theorem dX1_copyLottery_26 : decode cX1_copyLottery 26 = .ok (.aload_n 1, 1) := by decide +kernel
theorem dX1_copyLottery_27 : decode cX1_copyLottery 27 = .ok (.getfield 24, 3) := by decide +kernel
theorem dX1_copyLottery_30 : decode cX1_copyLottery 30 = .ok (.invokevirtual 65, 3) := by decide +kernel
theorem dX1_copyLottery_33 : decode cX1_copyLottery 33 = .ok (.aload_n 1, 1) := by decide +kernel
theorem dX1_copyLottery_34 : decode cX1_copyLottery 34 = .ok (.getfield 37, 3) := by decide +kernel
theorem dX1_copyLottery_37 : decode cX1_copyLottery 37 = .ok (.aload_n 0, 1) := by decide +kernel
theorem dX1_copyLottery_38 : decode cX1_copyLottery 38 = .ok (.getfield 37, 3) := by decide +kernel
theorem dX1_copyLottery_41 : decode cX1_copyLottery 41 = .ok (.invokestatic 69, 3) := by decide +kernel
theorem dX1_copyLottery_44 : decode cX1_copyLottery 44 = .ok (.aload_n 0, 1) := by decide +kernel
theorem dX1_copyLottery_45 : decode cX1_copyLottery 45 = .ok (.aload_n 1, 1) := by decide +kernel
theorem dX1_copyLottery_46 : decode cX1_copyLottery 46 = .ok (.getfield 40, 3) := by decide +kernel
theorem dX1_copyLottery_49 : decode cX1_copyLottery 49 = .ok (.putfield 40, 3) := by decide +kernel
theorem dX1_copyLottery_52 : decode cX1_copyLottery 52 = .ok (.aload_n 0, 1) := by decide +kernel
theorem dX1_copyLottery_53 : decode cX1_copyLottery 53 = .ok (.aload_n 1, 1) := by decide +kernel
theorem dX1_copyLottery_54 : decode cX1_copyLottery 54 = .ok (.getfield 44, 3) := by decide +kernel
theorem dX1_copyLottery_57 : decode cX1_copyLottery 57 = .ok (.putfield 44, 3) := by decide +kernel
theorem dX1_copyLottery_60 : decode cX1_copyLottery 60 = .ok (.return_, 1) := by decide +kernel
theorem dX1_jarAt_0 : decode cX1_jarAt 0 = .ok (.iload_n 1, 1) := by decide +kernel
theorem dX1_jarAt_1 : decode cX1_jarAt 1 = .ok (.ifCond .ne 10, 3) := by decide +kernel
theorem dX1_jarAt_4 : decode cX1_jarAt 4 = .ok (.aload_n 0, 1) := by decide +kernel
theorem dX1_jarAt_5 : decode cX1_jarAt 5 = .ok (.getfield 12, 3) := by decide +kernel
theorem dX1_jarAt_8 : decode cX1_jarAt 8 = .ok (.goto 7, 3) := by decide +kernel
theorem dX1_jarAt_11 : decode cX1_jarAt 11 = .ok (.aload_n 0, 1) := by decide +kernel
theorem dX1_jarAt_12 : decode cX1_jarAt 12 = .ok (.getfield 18, 3) := by decide +kernel
theorem dX1_jarAt_15 : decode cX1_jarAt 15 = .ok (.areturn, 1) := by decide +kernel
set_option maxRecDepth 20000 in
theorem dX1_numberOfMan_0 : decode cX1_numberOfMan 0 = .ok (.aload_n 1, 1) := by decide +kernel
theorem dX1_numberOfMan_1 : decode cX1_numberOfMan 1 = .ok (.aload_n 0, 1) := by decide +kernel
theorem dX1_numberOfMan_2 : decode cX1_numberOfMan 2 = .ok (.getfield 24, 3) := by decide +kernel
theorem dX1_numberOfMan_5 : decode cX1_numberOfMan 5 = .ok (.iload_n 2, 1) := by decide +kernel
theorem dX1_numberOfMan_6 : decode cX1_numberOfMan 6 = .ok (.invokevirtual 73, 3) := by decide +kernel
theorem dX1_numberOfMan_9 : decode cX1_numberOfMan 9 = .ok (.invokevirtual 77, 3) := by decide +kernel
theorem dX1_numberOfMan_12 : decode cX1_numberOfMan 12 = .ok (.ireturn, 1) := by decide +kernel
theorem dX1_isEven_0 : decode cX1_isEven 0 = .ok (.iload_n 0, 1) := by decide +kernel
theorem dX1_isEven_1 : decode cX1_isEven 1 = .ok (.iconst 2, 1) := by decide +kernel
theorem dX1_isEven_2 : decode cX1_isEven 2 = .ok (.irem, 1) := by decide +kernel
theorem dX1_isEven_3 : decode cX1_isEven 3 = .ok (.ifCond .ne 7, 3) := by decide +kernel
theorem dX1_isEven_6 : decode cX1_isEven 6 = .ok (.iconst 1, 1) := by decide +kernel
theorem dX1_isEven_7 : decode cX1_isEven 7 = .ok (.goto 4, 3) := by decide +kernel
theorem dX1_isEven_10 : decode cX1_isEven 10 = .ok (.iconst 0, 1) := by decide +kernel
theorem dX1_isEven_11 : decode cX1_isEven 11 = .ok (.ireturn, 1) := by decide +kernel
theorem dX1_isCalled_0 : decode cX1_isCalled 0 = .ok (.iload_n 1, 1) := by decide +kernel
theorem dX1_isCalled_1 : decode cX1_isCalled 1 = .ok (.aload_n 0, 1) := by decide +kernel
theorem dX1_isCalled_2 : decode cX1_isCalled 2 = .ok (.getfield 40, 3) := by decide +kernel
theorem dX1_isCalled_5 : decode cX1_isCalled 5 = .ok (.if_icmp .gt 7, 3) := by decide +kernel
theorem dX1_isCalled_8 : decode cX1_isCalled 8 = .ok (.iconst 1, 1) := by decide +kernel
theorem dX1_isCalled_9 : decode cX1_isCalled 9 = .ok (.goto 4, 3) := by decide +kernel
theorem dX1_isCalled_12 : decode cX1_isCalled 12 = .ok (.iconst 0, 1) := by decide +kernel
theorem dX1_isCalled_13 : decode cX1_isCalled 13 = .ok (.ireturn, 1) := by decide +kernel
set_option maxRecDepth 20000 in
theorem dX1_isCalledBy_0 : decode cX1_isCalledBy 0 = .ok (.aload_n 0, 1) := by decide +kernel
theorem dX1_isCalledBy_1 : decode cX1_isCalledBy 1 = .ok (.aload_n 0, 1) := by decide +kernel
theorem dX1_isCalledBy_2 : decode cX1_isCalledBy 2 = .ok (.aload_n 1, 1) := by decide +kernel
theorem dX1_isCalledBy_3 : decode cX1_isCalledBy 3 = .ok (.iload_n 2, 1) := by decide +kernel
theorem dX1_isCalledBy_4 : decode cX1_isCalledBy 4 = .ok (.invokevirtual 80, 3) := by decide +kernel
theorem dX1_isCalledBy_7 : decode cX1_isCalledBy 7 = .ok (.invokevirtual 84, 3) := by decide +kernel
theorem dX1_isCalledBy_10 : decode cX1_isCalledBy 10 = .ok (.ireturn, 1) := by decide +kernel
set_option maxRecDepth 20000 in
theorem dX1_serviceOf_0 : decode cX1_serviceOf 0 = .ok (.aload_n 0, 1) := by decide +kernel
theorem dX1_serviceOf_1 : decode cX1_serviceOf 1 = .ok (.aload_n 0, 1) := by decide +kernel
theorem dX1_serviceOf_2 : decode cX1_serviceOf 2 = .ok (.getfield 24, 3) := by decide +kernel
theorem dX1_serviceOf_5 : decode cX1_serviceOf 5 = .ok (.iload_n 2, 1) := by decide +kernel
theorem dX1_serviceOf_6 : decode cX1_serviceOf 6 = .ok (.invokevirtual 88, 3) := by decide +kernel
theorem dX1_serviceOf_9 : decode cX1_serviceOf 9 = .ok (.aload_n 0, 1) := by decide +kernel
theorem dX1_serviceOf_10 : decode cX1_serviceOf 10 = .ok (.aload_n 1, 1) := by decide +kernel
theorem dX1_serviceOf_11 : decode cX1_serviceOf 11 = .ok (.iload_n 2, 1) := by decide +kernel
theorem dX1_serviceOf_12 : decode cX1_serviceOf 12 = .ok (.invokevirtual 80, 3) := by decide +kernel
theorem dX1_serviceOf_15 : decode cX1_serviceOf 15 = .ok (.invokevirtual 91, 3) := by decide +kernel
theorem dX1_serviceOf_18 : decode cX1_serviceOf 18 = .ok (.ireturn, 1) := by decide +kernel
set_option maxRecDepth 20000 in
theorem dX1_serviceBy_0 : decode cX1_serviceBy 0 = .ok (.aload_n 0, 1) := by decide +kernel
theorem dX1_serviceBy_1 : decode cX1_serviceBy 1 = .ok (.iload_n 2, 1) := by decide +kernel
theorem dX1_serviceBy_2 : decode cX1_serviceBy 2 = .ok (.invokevirtual 84, 3) := by decide +kernel
theorem dX1_serviceBy_5 : decode cX1_serviceBy 5 = .ok (.istore_n 3, 1) := by decide +kernel
theorem dX1_serviceBy_6 : decode cX1_serviceBy 6 = .ok (.iload_n 1, 1) := by decide +kernel
theorem dX1_serviceBy_7 : decode cX1_serviceBy 7 = .ok (.tableswitch 86 0 5 #[37, 47, 86, 49, 59, 69], 37) := by decide +kernel
theorem dX1_serviceBy_44 : decode cX1_serviceBy 44 = .ok (.iload_n 3, 1) := by decide +kernel
theorem dX1_serviceBy_45 : decode cX1_serviceBy 45 = .ok (.ifCond .eq 7, 3) := by decide +kernel
theorem dX1_serviceBy_48 : decode cX1_serviceBy 48 = .ok (.iconst 1, 1) := by decide +kernel
theorem dX1_serviceBy_49 : decode cX1_serviceBy 49 = .ok (.goto 4, 3) := by decide +kernel
theorem dX1_serviceBy_52 : decode cX1_serviceBy 52 = .ok (.iconst 0, 1) := by decide +kernel
theorem dX1_serviceBy_53 : decode cX1_serviceBy 53 = .ok (.ireturn, 1) := by decide +kernel
theorem dX1_serviceBy_54 : decode cX1_serviceBy 54 = .ok (.iconst 1, 1) := by decide +kernel
theorem dX1_serviceBy_55 : decode cX1_serviceBy 55 = .ok (.ireturn, 1) := by decide +kernel
theorem dX1_serviceBy_56 : decode cX1_serviceBy 56 = .ok (.iload_n 3, 1) := by decide +kernel
theorem dX1_serviceBy_57 : decode cX1_serviceBy 57 = .ok (.ifCond .eq 7, 3) := by decide +kernel
theorem dX1_serviceBy_60 : decode cX1_serviceBy 60 = .ok (.iconst 3, 1) := by decide +kernel
theorem dX1_serviceBy_61 : decode cX1_serviceBy 61 = .ok (.goto 4, 3) := by decide +kernel
theorem dX1_serviceBy_64 : decode cX1_serviceBy 64 = .ok (.iconst 0, 1) := by decide +kernel
theorem dX1_serviceBy_65 : decode cX1_serviceBy 65 = .ok (.ireturn, 1) := by decide +kernel
theorem dX1_serviceBy_66 : decode cX1_serviceBy 66 = .ok (.iload_n 3, 1) := by decide +kernel
theorem dX1_serviceBy_67 : decode cX1_serviceBy 67 = .ok (.ifCond .eq 7, 3) := by decide +kernel
theorem dX1_serviceBy_70 : decode cX1_serviceBy 70 = .ok (.iconst 2, 1) := by decide +kernel
theorem dX1_serviceBy_71 : decode cX1_serviceBy 71 = .ok (.goto 4, 3) := by decide +kernel
theorem dX1_serviceBy_74 : decode cX1_serviceBy 74 = .ok (.iconst 1, 1) := by decide +kernel
theorem dX1_serviceBy_75 : decode cX1_serviceBy 75 = .ok (.ireturn, 1) := by decide +kernel
theorem dX1_serviceBy_76 : decode cX1_serviceBy 76 = .ok (.iload_n 3, 1) := by decide +kernel
theorem dX1_serviceBy_77 : decode cX1_serviceBy 77 = .ok (.ifCond .eq 14, 3) := by decide +kernel
theorem dX1_serviceBy_80 : decode cX1_serviceBy 80 = .ok (.iload_n 2, 1) := by decide +kernel
theorem dX1_serviceBy_81 : decode cX1_serviceBy 81 = .ok (.invokestatic 95, 3) := by decide +kernel
theorem dX1_serviceBy_84 : decode cX1_serviceBy 84 = .ok (.ifCond .eq 7, 3) := by decide +kernel
theorem dX1_serviceBy_87 : decode cX1_serviceBy 87 = .ok (.iconst 1, 1) := by decide +kernel
theorem dX1_serviceBy_88 : decode cX1_serviceBy 88 = .ok (.goto 4, 3) := by decide +kernel
theorem dX1_serviceBy_91 : decode cX1_serviceBy 91 = .ok (.iconst 0, 1) := by decide +kernel
theorem dX1_serviceBy_92 : decode cX1_serviceBy 92 = .ok (.ireturn, 1) := by decide +kernel
theorem dX1_serviceBy_93 : decode cX1_serviceBy 93 = .ok (.iconst 0, 1) := by decide +kernel
theorem dX1_serviceBy_94 : decode cX1_serviceBy 94 = .ok (.ireturn, 1) := by decide +kernel
set_option maxRecDepth 20000 in
theorem dX1_hasServed_0 : decode cX1_hasServed 0 = .ok (.aload_n 0, 1) := by decide +kernel
theorem dX1_hasServed_1 : decode cX1_hasServed 1 = .ok (.iload_n 1, 1) := by decide +kernel
theorem dX1_hasServed_2 : decode cX1_hasServed 2 = .ok (.iload_n 2, 1) := by decide +kernel
theorem dX1_hasServed_3 : decode cX1_hasServed 3 = .ok (.invokevirtual 91, 3) := by decide +kernel
theorem dX1_hasServed_6 : decode cX1_hasServed 6 = .ok (.istore_n 3, 1) := by decide +kernel
theorem dX1_hasServed_7 : decode cX1_hasServed 7 = .ok (.iload_n 3, 1) := by decide +kernel
theorem dX1_hasServed_8 : decode cX1_hasServed 8 = .ok (.iconst 1, 1) := by decide +kernel
theorem dX1_hasServed_9 : decode cX1_hasServed 9 = .ok (.if_icmp .eq 8, 3) := by decide +kernel
theorem dX1_hasServed_12 : decode cX1_hasServed 12 = .ok (.iload_n 3, 1) := by decide +kernel
theorem dX1_hasServed_13 : decode cX1_hasServed 13 = .ok (.iconst 2, 1) := by decide +kernel
theorem dX1_hasServed_14 : decode cX1_hasServed 14 = .ok (.if_icmp .ne 7, 3) := by decide +kernel
theorem dX1_hasServed_17 : decode cX1_hasServed 17 = .ok (.iconst 1, 1) := by decide +kernel
theorem dX1_hasServed_18 : decode cX1_hasServed 18 = .ok (.goto 4, 3) := by decide +kernel
theorem dX1_hasServed_21 : decode cX1_hasServed 21 = .ok (.iconst 0, 1) := by decide +kernel
theorem dX1_hasServed_22 : decode cX1_hasServed 22 = .ok (.ireturn, 1) := by decide +kernel
set_option maxRecDepth 20000 in
theorem dX1_menWhoServed_0 : decode cX1_menWhoServed 0 = .ok (.iconst 0, 1) := by decide +kernel
theorem dX1_menWhoServed_1 : decode cX1_menWhoServed 1 = .ok (.istore_n 2, 1) := by decide +kernel
theorem dX1_menWhoServed_2 : decode cX1_menWhoServed 2 = .ok (.iconst 0, 1) := by decide +kernel
theorem dX1_menWhoServed_3 : decode cX1_menWhoServed 3 = .ok (.istore_n 3, 1) := by decide +kernel
theorem dX1_menWhoServed_4 : decode cX1_menWhoServed 4 = .ok (.iload_n 3, 1) := by decide +kernel
theorem dX1_menWhoServed_5 : decode cX1_menWhoServed 5 = .ok (.aload_n 0, 1) := by decide +kernel
theorem dX1_menWhoServed_6 : decode cX1_menWhoServed 6 = .ok (.getfield 24, 3) := by decide +kernel
theorem dX1_menWhoServed_9 : decode cX1_menWhoServed 9 = .ok (.getfield 98, 3) := by decide +kernel
theorem dX1_menWhoServed_12 : decode cX1_menWhoServed 12 = .ok (.if_icmp .ge 33, 3) := by decide +kernel
theorem dX1_menWhoServed_15 : decode cX1_menWhoServed 15 = .ok (.aload_n 0, 1) := by decide +kernel
theorem dX1_menWhoServed_16 : decode cX1_menWhoServed 16 = .ok (.aload_n 0, 1) := by decide +kernel
theorem dX1_menWhoServed_17 : decode cX1_menWhoServed 17 = .ok (.getfield 24, 3) := by decide +kernel
theorem dX1_menWhoServed_20 : decode cX1_menWhoServed 20 = .ok (.iload_n 3, 1) := by decide +kernel
theorem dX1_menWhoServed_21 : decode cX1_menWhoServed 21 = .ok (.invokevirtual 88, 3) := by decide +kernel
theorem dX1_menWhoServed_24 : decode cX1_menWhoServed 24 = .ok (.aload_n 0, 1) := by decide +kernel
theorem dX1_menWhoServed_25 : decode cX1_menWhoServed 25 = .ok (.aload_n 1, 1) := by decide +kernel
theorem dX1_menWhoServed_26 : decode cX1_menWhoServed 26 = .ok (.iload_n 3, 1) := by decide +kernel
theorem dX1_menWhoServed_27 : decode cX1_menWhoServed 27 = .ok (.invokevirtual 80, 3) := by decide +kernel
theorem dX1_menWhoServed_30 : decode cX1_menWhoServed 30 = .ok (.invokevirtual 101, 3) := by decide +kernel
theorem dX1_menWhoServed_33 : decode cX1_menWhoServed 33 = .ok (.ifCond .eq 6, 3) := by decide +kernel
theorem dX1_menWhoServed_36 : decode cX1_menWhoServed 36 = .ok (.iinc 2 1, 3) := by decide +kernel
theorem dX1_menWhoServed_39 : decode cX1_menWhoServed 39 = .ok (.iinc 3 1, 3) := by decide +kernel
theorem dX1_menWhoServed_42 : decode cX1_menWhoServed 42 = .ok (.goto (-38), 3) := by decide +kernel
theorem dX1_menWhoServed_45 : decode cX1_menWhoServed 45 = .ok (.iload_n 2, 1) := by decide +kernel
theorem dX1_menWhoServed_46 : decode cX1_menWhoServed 46 = .ok (.ireturn, 1) := by decide +kernel
set_option maxRecDepth 20000 in
theorem dX1_lossLeft_0 : decode cX1_lossLeft 0 = .ok (.aload_n 0, 1) := by decide +kernel
theorem dX1_lossLeft_1 : decode cX1_lossLeft 1 = .ok (.getfield 37, 3) := by decide +kernel
theorem dX1_lossLeft_4 : decode cX1_lossLeft 4 = .ok (.iconst 1, 1) := by decide +kernel
theorem dX1_lossLeft_5 : decode cX1_lossLeft 5 = .ok (.invokestatic 105, 3) := by decide +kernel
theorem dX1_lossLeft_8 : decode cX1_lossLeft 8 = .ok (.iconst 0, 1) := by decide +kernel
theorem dX1_lossLeft_9 : decode cX1_lossLeft 9 = .ok (.bipush 100, 2) := by decide +kernel
theorem dX1_lossLeft_11 : decode cX1_lossLeft 11 = .ok (.aload_n 0, 1) := by decide +kernel
theorem dX1_lossLeft_12 : decode cX1_lossLeft 12 = .ok (.getfield 37, 3) := by decide +kernel
theorem dX1_lossLeft_15 : decode cX1_lossLeft 15 = .ok (.iconst 2, 1) := by decide +kernel
theorem dX1_lossLeft_16 : decode cX1_lossLeft 16 = .ok (.invokestatic 105, 3) := by decide +kernel
theorem dX1_lossLeft_19 : decode cX1_lossLeft 19 = .ok (.iload_n 1, 1) := by decide +kernel
theorem dX1_lossLeft_20 : decode cX1_lossLeft 20 = .ok (.imul, 1) := by decide +kernel
theorem dX1_lossLeft_21 : decode cX1_lossLeft 21 = .ok (.isub, 1) := by decide +kernel
theorem dX1_lossLeft_22 : decode cX1_lossLeft 22 = .ok (.invokestatic 109, 3) := by decide +kernel
theorem dX1_lossLeft_25 : decode cX1_lossLeft 25 = .ok (.imul, 1) := by decide +kernel
theorem dX1_lossLeft_26 : decode cX1_lossLeft 26 = .ok (.bipush 100, 2) := by decide +kernel
theorem dX1_lossLeft_28 : decode cX1_lossLeft 28 = .ok (.idiv, 1) := by decide +kernel
theorem dX1_lossLeft_29 : decode cX1_lossLeft 29 = .ok (.ireturn, 1) := by decide +kernel
set_option maxRecDepth 20000 in
theorem dX1_changeByService_0 : decode cX1_changeByService 0 = .ok (.iload_n 1, 1) := by decide +kernel
theorem dX1_changeByService_1 : decode cX1_changeByService 1 = .ok (.tableswitch 52 1 3 #[27, 34, 43], 27) := by decide +kernel
theorem dX1_changeByService_28 : decode cX1_changeByService 28 = .ok (.aload_n 0, 1) := by decide +kernel
theorem dX1_changeByService_29 : decode cX1_changeByService 29 = .ok (.iload_n 2, 1) := by decide +kernel
theorem dX1_changeByService_30 : decode cX1_changeByService 30 = .ok (.invokevirtual 114, 3) := by decide +kernel
theorem dX1_changeByService_33 : decode cX1_changeByService 33 = .ok (.ineg, 1) := by decide +kernel
theorem dX1_changeByService_34 : decode cX1_changeByService 34 = .ok (.ireturn, 1) := by decide +kernel
theorem dX1_changeByService_35 : decode cX1_changeByService 35 = .ok (.aload_n 0, 1) := by decide +kernel
theorem dX1_changeByService_36 : decode cX1_changeByService 36 = .ok (.iload_n 2, 1) := by decide +kernel
theorem dX1_changeByService_37 : decode cX1_changeByService 37 = .ok (.invokevirtual 114, 3) := by decide +kernel
theorem dX1_changeByService_40 : decode cX1_changeByService 40 = .ok (.iconst 2, 1) := by decide +kernel
theorem dX1_changeByService_41 : decode cX1_changeByService 41 = .ok (.idiv, 1) := by decide +kernel
theorem dX1_changeByService_42 : decode cX1_changeByService 42 = .ok (.ineg, 1) := by decide +kernel
theorem dX1_changeByService_43 : decode cX1_changeByService 43 = .ok (.ireturn, 1) := by decide +kernel
theorem dX1_changeByService_44 : decode cX1_changeByService 44 = .ok (.aload_n 0, 1) := by decide +kernel
theorem dX1_changeByService_45 : decode cX1_changeByService 45 = .ok (.getfield 37, 3) := by decide +kernel
theorem dX1_changeByService_48 : decode cX1_changeByService 48 = .ok (.iconst 3, 1) := by decide +kernel
theorem dX1_changeByService_49 : decode cX1_changeByService 49 = .ok (.invokestatic 105, 3) := by decide +kernel
theorem dX1_changeByService_52 : decode cX1_changeByService 52 = .ok (.ireturn, 1) := by decide +kernel
theorem dX1_changeByService_53 : decode cX1_changeByService 53 = .ok (.iconst 0, 1) := by decide +kernel
theorem dX1_changeByService_54 : decode cX1_changeByService 54 = .ok (.ireturn, 1) := by decide +kernel
set_option maxRecDepth 20000 in
theorem dX1_wageOf_0 : decode cX1_wageOf 0 = .ok (.aload_n 0, 1) := by decide +kernel
theorem dX1_wageOf_1 : decode cX1_wageOf 1 = .ok (.aload_n 1, 1) := by decide +kernel
theorem dX1_wageOf_2 : decode cX1_wageOf 2 = .ok (.iload_n 2, 1) := by decide +kernel
theorem dX1_wageOf_3 : decode cX1_wageOf 3 = .ok (.invokevirtual 80, 3) := by decide +kernel
theorem dX1_wageOf_6 : decode cX1_wageOf 6 = .ok (.istore 4, 2) := by decide +kernel
theorem dX1_wageOf_8 : decode cX1_wageOf 8 = .ok (.aload_n 0, 1) := by decide +kernel
theorem dX1_wageOf_9 : decode cX1_wageOf 9 = .ok (.getfield 24, 3) := by decide +kernel
theorem dX1_wageOf_12 : decode cX1_wageOf 12 = .ok (.iload_n 2, 1) := by decide +kernel
theorem dX1_wageOf_13 : decode cX1_wageOf 13 = .ok (.invokevirtual 117, 3) := by decide +kernel
theorem dX1_wageOf_16 : decode cX1_wageOf 16 = .ok (.aload_n 0, 1) := by decide +kernel
theorem dX1_wageOf_17 : decode cX1_wageOf 17 = .ok (.getfield 37, 3) := by decide +kernel
theorem dX1_wageOf_20 : decode cX1_wageOf 20 = .ok (.iconst 0, 1) := by decide +kernel
theorem dX1_wageOf_21 : decode cX1_wageOf 21 = .ok (.invokestatic 105, 3) := by decide +kernel
theorem dX1_wageOf_24 : decode cX1_wageOf 24 = .ok (.iload_n 3, 1) := by decide +kernel
theorem dX1_wageOf_25 : decode cX1_wageOf 25 = .ok (.imul, 1) := by decide +kernel
theorem dX1_wageOf_26 : decode cX1_wageOf 26 = .ok (.iadd, 1) := by decide +kernel
theorem dX1_wageOf_27 : decode cX1_wageOf 27 = .ok (.istore 5, 2) := by decide +kernel
theorem dX1_wageOf_29 : decode cX1_wageOf 29 = .ok (.aload_n 0, 1) := by decide +kernel
theorem dX1_wageOf_30 : decode cX1_wageOf 30 = .ok (.iload 4, 2) := by decide +kernel
theorem dX1_wageOf_32 : decode cX1_wageOf 32 = .ok (.invokevirtual 84, 3) := by decide +kernel
theorem dX1_wageOf_35 : decode cX1_wageOf 35 = .ok (.ifCond .eq 14, 3) := by decide +kernel
theorem dX1_wageOf_38 : decode cX1_wageOf 38 = .ok (.aload_n 0, 1) := by decide +kernel
theorem dX1_wageOf_39 : decode cX1_wageOf 39 = .ok (.getfield 37, 3) := by decide +kernel
theorem dX1_wageOf_42 : decode cX1_wageOf 42 = .ok (.iconst 4, 1) := by decide +kernel
theorem dX1_wageOf_43 : decode cX1_wageOf 43 = .ok (.invokestatic 105, 3) := by decide +kernel
theorem dX1_wageOf_46 : decode cX1_wageOf 46 = .ok (.goto 4, 3) := by decide +kernel
theorem dX1_wageOf_49 : decode cX1_wageOf 49 = .ok (.iconst 0, 1) := by decide +kernel
theorem dX1_wageOf_50 : decode cX1_wageOf 50 = .ok (.istore 6, 2) := by decide +kernel
theorem dX1_wageOf_52 : decode cX1_wageOf 52 = .ok (.iload 5, 2) := by decide +kernel
theorem dX1_wageOf_54 : decode cX1_wageOf 54 = .ok (.aload_n 0, 1) := by decide +kernel
theorem dX1_wageOf_55 : decode cX1_wageOf 55 = .ok (.aload_n 0, 1) := by decide +kernel
theorem dX1_wageOf_56 : decode cX1_wageOf 56 = .ok (.aload_n 0, 1) := by decide +kernel
theorem dX1_wageOf_57 : decode cX1_wageOf 57 = .ok (.getfield 24, 3) := by decide +kernel
theorem dX1_wageOf_60 : decode cX1_wageOf 60 = .ok (.iload_n 2, 1) := by decide +kernel
theorem dX1_wageOf_61 : decode cX1_wageOf 61 = .ok (.invokevirtual 88, 3) := by decide +kernel
theorem dX1_wageOf_64 : decode cX1_wageOf 64 = .ok (.iload 4, 2) := by decide +kernel
theorem dX1_wageOf_66 : decode cX1_wageOf 66 = .ok (.invokevirtual 91, 3) := by decide +kernel
theorem dX1_wageOf_69 : decode cX1_wageOf 69 = .ok (.iload_n 3, 1) := by decide +kernel
theorem dX1_wageOf_70 : decode cX1_wageOf 70 = .ok (.invokevirtual 120, 3) := by decide +kernel
theorem dX1_wageOf_73 : decode cX1_wageOf 73 = .ok (.iadd, 1) := by decide +kernel
theorem dX1_wageOf_74 : decode cX1_wageOf 74 = .ok (.iload 6, 2) := by decide +kernel
theorem dX1_wageOf_76 : decode cX1_wageOf 76 = .ok (.isub, 1) := by decide +kernel
theorem dX1_wageOf_77 : decode cX1_wageOf 77 = .ok (.ireturn, 1) := by decide +kernel
set_option maxRecDepth 20000 in
theorem dX1_findDoes_0 : decode cX1_findDoes 0 = .ok (.aload_n 0, 1) := by decide +kernel
theorem dX1_findDoes_1 : decode cX1_findDoes 1 = .ok (.getfield 50, 3) := by decide +kernel
theorem dX1_findDoes_4 : decode cX1_findDoes 4 = .ok (.invokevirtual 123, 3) := by decide +kernel
theorem dX1_findDoes_7 : decode cX1_findDoes 7 = .ok (.iconst 0, 1) := by decide +kernel
theorem dX1_findDoes_8 : decode cX1_findDoes 8 = .ok (.istore 4, 2) := by decide +kernel
theorem dX1_findDoes_10 : decode cX1_findDoes 10 = .ok (.iload 4, 2) := by decide +kernel
theorem dX1_findDoes_12 : decode cX1_findDoes 12 = .ok (.aload_n 0, 1) := by decide +kernel
theorem dX1_findDoes_13 : decode cX1_findDoes 13 = .ok (.getfield 24, 3) := by decide +kernel
theorem dX1_findDoes_16 : decode cX1_findDoes 16 = .ok (.getfield 98, 3) := by decide +kernel
theorem dX1_findDoes_19 : decode cX1_findDoes 19 = .ok (.if_icmp .ge 32, 3) := by decide +kernel
theorem dX1_findDoes_22 : decode cX1_findDoes 22 = .ok (.aload_n 0, 1) := by decide +kernel
theorem dX1_findDoes_23 : decode cX1_findDoes 23 = .ok (.getfield 50, 3) := by decide +kernel
theorem dX1_findDoes_26 : decode cX1_findDoes 26 = .ok (.aload_n 0, 1) := by decide +kernel
theorem dX1_findDoes_27 : decode cX1_findDoes 27 = .ok (.aload_n 1, 1) := by decide +kernel
theorem dX1_findDoes_28 : decode cX1_findDoes 28 = .ok (.iload 4, 2) := by decide +kernel
theorem dX1_findDoes_30 : decode cX1_findDoes 30 = .ok (.invokevirtual 126, 3) := by decide +kernel
theorem dX1_findDoes_33 : decode cX1_findDoes 33 = .ok (.aload_n 0, 1) := by decide +kernel
theorem dX1_findDoes_34 : decode cX1_findDoes 34 = .ok (.aload_n 1, 1) := by decide +kernel
theorem dX1_findDoes_35 : decode cX1_findDoes 35 = .ok (.iload 4, 2) := by decide +kernel
theorem dX1_findDoes_37 : decode cX1_findDoes 37 = .ok (.iload_n 2, 1) := by decide +kernel
theorem dX1_findDoes_38 : decode cX1_findDoes 38 = .ok (.invokevirtual 130, 3) := by decide +kernel
theorem dX1_findDoes_41 : decode cX1_findDoes 41 = .ok (.i2l, 1) := by decide +kernel
theorem dX1_findDoes_42 : decode cX1_findDoes 42 = .ok (.invokevirtual 134, 3) := by decide +kernel
theorem dX1_findDoes_45 : decode cX1_findDoes 45 = .ok (.iinc 4 1, 3) := by decide +kernel
theorem dX1_findDoes_48 : decode cX1_findDoes 48 = .ok (.goto (-38), 3) := by decide +kernel
theorem dX1_findDoes_51 : decode cX1_findDoes 51 = .ok (.aload_n 0, 1) := by decide +kernel
theorem dX1_findDoes_52 : decode cX1_findDoes 52 = .ok (.getfield 50, 3) := by decide +kernel
theorem dX1_findDoes_55 : decode cX1_findDoes 55 = .ok (.aload_n 3, 1) := by decide +kernel
theorem dX1_findDoes_56 : decode cX1_findDoes 56 = .ok (.invokevirtual 138, 3) := by decide +kernel
theorem dX1_findDoes_59 : decode cX1_findDoes 59 = .ok (.ireturn, 1) := by decide +kernel
set_option maxRecDepth 20000 in
theorem dX1_findShare_0 : decode cX1_findShare 0 = .ok (.aload_n 0, 1) := by decide +kernel
theorem dX1_findShare_1 : decode cX1_findShare 1 = .ok (.getfield 50, 3) := by decide +kernel
theorem dX1_findShare_4 : decode cX1_findShare 4 = .ok (.invokevirtual 123, 3) := by decide +kernel
theorem dX1_findShare_7 : decode cX1_findShare 7 = .ok (.iconst 0, 1) := by decide +kernel
theorem dX1_findShare_8 : decode cX1_findShare 8 = .ok (.istore_n 3, 1) := by decide +kernel
theorem dX1_findShare_9 : decode cX1_findShare 9 = .ok (.iload_n 3, 1) := by decide +kernel
theorem dX1_findShare_10 : decode cX1_findShare 10 = .ok (.aload_n 0, 1) := by decide +kernel
theorem dX1_findShare_11 : decode cX1_findShare 11 = .ok (.getfield 24, 3) := by decide +kernel
theorem dX1_findShare_14 : decode cX1_findShare 14 = .ok (.getfield 98, 3) := by decide +kernel
theorem dX1_findShare_17 : decode cX1_findShare 17 = .ok (.if_icmp .ge 52, 3) := by decide +kernel
theorem dX1_findShare_20 : decode cX1_findShare 20 = .ok (.aload_n 0, 1) := by decide +kernel
theorem dX1_findShare_21 : decode cX1_findShare 21 = .ok (.aload_n 1, 1) := by decide +kernel
theorem dX1_findShare_22 : decode cX1_findShare 22 = .ok (.iload_n 3, 1) := by decide +kernel
theorem dX1_findShare_23 : decode cX1_findShare 23 = .ok (.invokevirtual 80, 3) := by decide +kernel
theorem dX1_findShare_26 : decode cX1_findShare 26 = .ok (.istore 4, 2) := by decide +kernel
theorem dX1_findShare_28 : decode cX1_findShare 28 = .ok (.aload_n 0, 1) := by decide +kernel
theorem dX1_findShare_29 : decode cX1_findShare 29 = .ok (.getfield 50, 3) := by decide +kernel
theorem dX1_findShare_32 : decode cX1_findShare 32 = .ok (.aload_n 0, 1) := by decide +kernel
theorem dX1_findShare_33 : decode cX1_findShare 33 = .ok (.iload 4, 2) := by decide +kernel
theorem dX1_findShare_35 : decode cX1_findShare 35 = .ok (.invokevirtual 84, 3) := by decide +kernel
theorem dX1_findShare_38 : decode cX1_findShare 38 = .ok (.aload_n 0, 1) := by decide +kernel
theorem dX1_findShare_39 : decode cX1_findShare 39 = .ok (.aload_n 0, 1) := by decide +kernel
theorem dX1_findShare_40 : decode cX1_findShare 40 = .ok (.getfield 24, 3) := by decide +kernel
theorem dX1_findShare_43 : decode cX1_findShare 43 = .ok (.iload_n 3, 1) := by decide +kernel
theorem dX1_findShare_44 : decode cX1_findShare 44 = .ok (.invokevirtual 88, 3) := by decide +kernel
theorem dX1_findShare_47 : decode cX1_findShare 47 = .ok (.iload 4, 2) := by decide +kernel
theorem dX1_findShare_49 : decode cX1_findShare 49 = .ok (.invokevirtual 101, 3) := by decide +kernel
theorem dX1_findShare_52 : decode cX1_findShare 52 = .ok (.ifCond .eq 7, 3) := by decide +kernel
theorem dX1_findShare_55 : decode cX1_findShare 55 = .ok (.lconst 1, 1) := by decide +kernel
theorem dX1_findShare_56 : decode cX1_findShare 56 = .ok (.goto 4, 3) := by decide +kernel
theorem dX1_findShare_59 : decode cX1_findShare 59 = .ok (.lconst 0, 1) := by decide +kernel
theorem dX1_findShare_60 : decode cX1_findShare 60 = .ok (.invokevirtual 134, 3) := by decide +kernel
theorem dX1_findShare_63 : decode cX1_findShare 63 = .ok (.iinc 3 1, 3) := by decide +kernel
theorem dX1_findShare_66 : decode cX1_findShare 66 = .ok (.goto (-57), 3) := by decide +kernel
theorem dX1_findShare_69 : decode cX1_findShare 69 = .ok (.aload_n 0, 1) := by decide +kernel
theorem dX1_findShare_70 : decode cX1_findShare 70 = .ok (.getfield 50, 3) := by decide +kernel
theorem dX1_findShare_73 : decode cX1_findShare 73 = .ok (.aload_n 2, 1) := by decide +kernel
theorem dX1_findShare_74 : decode cX1_findShare 74 = .ok (.invokevirtual 138, 3) := by decide +kernel
theorem dX1_findShare_77 : decode cX1_findShare 77 = .ok (.ireturn, 1) := by decide +kernel
set_option maxRecDepth 20000 in
theorem dX1_findServing_0 : decode cX1_findServing 0 = .ok (.aload_n 0, 1) := by decide +kernel
theorem dX1_findServing_1 : decode cX1_findServing 1 = .ok (.aload_n 1, 1) := by decide +kernel
theorem dX1_findServing_2 : decode cX1_findServing 2 = .ok (.aload_n 0, 1) := by decide +kernel
theorem dX1_findServing_3 : decode cX1_findServing 3 = .ok (.getfield 57, 3) := by decide +kernel
theorem dX1_findServing_6 : decode cX1_findServing 6 = .ok (.invokevirtual 142, 3) := by decide +kernel
theorem dX1_findServing_9 : decode cX1_findServing 9 = .ok (.ifCond .eq 25, 3) := by decide +kernel
theorem dX1_findServing_12 : decode cX1_findServing 12 = .ok (.aload_n 0, 1) := by decide +kernel
theorem dX1_findServing_13 : decode cX1_findServing 13 = .ok (.getfield 57, 3) := by decide +kernel
theorem dX1_findServing_16 : decode cX1_findServing 16 = .ok (.getfield 146, 3) := by decide +kernel
theorem dX1_findServing_19 : decode cX1_findServing 19 = .ok (.lconst 0, 1) := by decide +kernel
theorem dX1_findServing_20 : decode cX1_findServing 20 = .ok (.lcmp, 1) := by decide +kernel
theorem dX1_findServing_21 : decode cX1_findServing 21 = .ok (.ifCond .eq 13, 3) := by decide +kernel
theorem dX1_findServing_24 : decode cX1_findServing 24 = .ok (.aload_n 0, 1) := by decide +kernel
theorem dX1_findServing_25 : decode cX1_findServing 25 = .ok (.aload_n 1, 1) := by decide +kernel
theorem dX1_findServing_26 : decode cX1_findServing 26 = .ok (.iload_n 2, 1) := by decide +kernel
theorem dX1_findServing_27 : decode cX1_findServing 27 = .ok (.aload_n 3, 1) := by decide +kernel
theorem dX1_findServing_28 : decode cX1_findServing 28 = .ok (.invokevirtual 150, 3) := by decide +kernel
theorem dX1_findServing_31 : decode cX1_findServing 31 = .ok (.ifCond .ne 5, 3) := by decide +kernel
theorem dX1_findServing_34 : decode cX1_findServing 34 = .ok (.iconst 0, 1) := by decide +kernel
theorem dX1_findServing_35 : decode cX1_findServing 35 = .ok (.ireturn, 1) := by decide +kernel
theorem dX1_findServing_36 : decode cX1_findServing 36 = .ok (.aload_n 3, 1) := by decide +kernel
theorem dX1_findServing_37 : decode cX1_findServing 37 = .ok (.aload_n 3, 1) := by decide +kernel
theorem dX1_findServing_38 : decode cX1_findServing 38 = .ok (.getfield 146, 3) := by decide +kernel
theorem dX1_findServing_41 : decode cX1_findServing 41 = .ok (.aload_n 0, 1) := by decide +kernel
theorem dX1_findServing_42 : decode cX1_findServing 42 = .ok (.getfield 57, 3) := by decide +kernel
theorem dX1_findServing_45 : decode cX1_findServing 45 = .ok (.getfield 154, 3) := by decide +kernel
theorem dX1_findServing_48 : decode cX1_findServing 48 = .ok (.lmul, 1) := by decide +kernel
theorem dX1_findServing_49 : decode cX1_findServing 49 = .ok (.aload_n 3, 1) := by decide +kernel
theorem dX1_findServing_50 : decode cX1_findServing 50 = .ok (.getfield 154, 3) := by decide +kernel
theorem dX1_findServing_53 : decode cX1_findServing 53 = .ok (.aload_n 0, 1) := by decide +kernel
theorem dX1_findServing_54 : decode cX1_findServing 54 = .ok (.getfield 57, 3) := by decide +kernel
theorem dX1_findServing_57 : decode cX1_findServing 57 = .ok (.getfield 146, 3) := by decide +kernel
theorem dX1_findServing_60 : decode cX1_findServing 60 = .ok (.lmul, 1) := by decide +kernel
theorem dX1_findServing_61 : decode cX1_findServing 61 = .ok (.invokevirtual 157, 3) := by decide +kernel
theorem dX1_findServing_64 : decode cX1_findServing 64 = .ok (.iconst 1, 1) := by decide +kernel
theorem dX1_findServing_65 : decode cX1_findServing 65 = .ok (.ireturn, 1) := by decide +kernel
set_option maxRecDepth 20000 in
theorem dX1_findTruly_0 : decode cX1_findTruly 0 = .ok (.aload_n 3, 1) := by decide +kernel
theorem dX1_findTruly_1 : decode cX1_findTruly 1 = .ok (.aload_n 0, 1) := by decide +kernel
theorem dX1_findTruly_2 : decode cX1_findTruly 2 = .ok (.iload_n 2, 1) := by decide +kernel
theorem dX1_findTruly_3 : decode cX1_findTruly 3 = .ok (.invokevirtual 114, 3) := by decide +kernel
theorem dX1_findTruly_6 : decode cX1_findTruly 6 = .ok (.ineg, 1) := by decide +kernel
theorem dX1_findTruly_7 : decode cX1_findTruly 7 = .ok (.aload_n 0, 1) := by decide +kernel
theorem dX1_findTruly_8 : decode cX1_findTruly 8 = .ok (.getfield 37, 3) := by decide +kernel
theorem dX1_findTruly_11 : decode cX1_findTruly 11 = .ok (.iconst 4, 1) := by decide +kernel
theorem dX1_findTruly_12 : decode cX1_findTruly 12 = .ok (.invokestatic 105, 3) := by decide +kernel
theorem dX1_findTruly_15 : decode cX1_findTruly 15 = .ok (.isub, 1) := by decide +kernel
theorem dX1_findTruly_16 : decode cX1_findTruly 16 = .ok (.i2l, 1) := by decide +kernel
theorem dX1_findTruly_17 : decode cX1_findTruly 17 = .ok (.lconst 1, 1) := by decide +kernel
theorem dX1_findTruly_18 : decode cX1_findTruly 18 = .ok (.invokevirtual 157, 3) := by decide +kernel
theorem dX1_findTruly_21 : decode cX1_findTruly 21 = .ok (.iconst 0, 1) := by decide +kernel
theorem dX1_findTruly_22 : decode cX1_findTruly 22 = .ok (.istore 4, 2) := by decide +kernel
theorem dX1_findTruly_24 : decode cX1_findTruly 24 = .ok (.iload 4, 2) := by decide +kernel
theorem dX1_findTruly_26 : decode cX1_findTruly 26 = .ok (.aload_n 0, 1) := by decide +kernel
theorem dX1_findTruly_27 : decode cX1_findTruly 27 = .ok (.getfield 24, 3) := by decide +kernel
theorem dX1_findTruly_30 : decode cX1_findTruly 30 = .ok (.getfield 98, 3) := by decide +kernel
theorem dX1_findTruly_33 : decode cX1_findTruly 33 = .ok (.if_icmp .ge 34, 3) := by decide +kernel
theorem dX1_findTruly_36 : decode cX1_findTruly 36 = .ok (.aload_n 0, 1) := by decide +kernel
theorem dX1_findTruly_37 : decode cX1_findTruly 37 = .ok (.aload_n 0, 1) := by decide +kernel
theorem dX1_findTruly_38 : decode cX1_findTruly 38 = .ok (.getfield 24, 3) := by decide +kernel
theorem dX1_findTruly_41 : decode cX1_findTruly 41 = .ok (.iload 4, 2) := by decide +kernel
theorem dX1_findTruly_43 : decode cX1_findTruly 43 = .ok (.invokevirtual 88, 3) := by decide +kernel
theorem dX1_findTruly_46 : decode cX1_findTruly 46 = .ok (.aload_n 0, 1) := by decide +kernel
theorem dX1_findTruly_47 : decode cX1_findTruly 47 = .ok (.aload_n 1, 1) := by decide +kernel
theorem dX1_findTruly_48 : decode cX1_findTruly 48 = .ok (.iload 4, 2) := by decide +kernel
theorem dX1_findTruly_50 : decode cX1_findTruly 50 = .ok (.invokevirtual 80, 3) := by decide +kernel
theorem dX1_findTruly_53 : decode cX1_findTruly 53 = .ok (.invokevirtual 161, 3) := by decide +kernel
theorem dX1_findTruly_56 : decode cX1_findTruly 56 = .ok (.ifCond .eq 5, 3) := by decide +kernel
theorem dX1_findTruly_59 : decode cX1_findTruly 59 = .ok (.iconst 1, 1) := by decide +kernel
theorem dX1_findTruly_60 : decode cX1_findTruly 60 = .ok (.ireturn, 1) := by decide +kernel
theorem dX1_findTruly_61 : decode cX1_findTruly 61 = .ok (.iinc 4 1, 3) := by decide +kernel
theorem dX1_findTruly_64 : decode cX1_findTruly 64 = .ok (.goto (-40), 3) := by decide +kernel
theorem dX1_findTruly_67 : decode cX1_findTruly 67 = .ok (.iconst 0, 1) := by decide +kernel
theorem dX1_findTruly_68 : decode cX1_findTruly 68 = .ok (.ireturn, 1) := by decide +kernel
set_option maxRecDepth 20000 in
theorem dX1_servesOnlyIfCalled_0 : decode cX1_servesOnlyIfCalled 0 = .ok (.iload_n 1, 1) := by decide +kernel
theorem dX1_servesOnlyIfCalled_1 : decode cX1_servesOnlyIfCalled 1 = .ok (.ifCond .eq 15, 3) := by decide +kernel
theorem dX1_servesOnlyIfCalled_4 : decode cX1_servesOnlyIfCalled 4 = .ok (.iload_n 1, 1) := by decide +kernel
theorem dX1_servesOnlyIfCalled_5 : decode cX1_servesOnlyIfCalled 5 = .ok (.iconst 5, 1) := by decide +kernel
theorem dX1_servesOnlyIfCalled_6 : decode cX1_servesOnlyIfCalled 6 = .ok (.if_icmp .ne 14, 3) := by decide +kernel
theorem dX1_servesOnlyIfCalled_9 : decode cX1_servesOnlyIfCalled 9 = .ok (.iload_n 2, 1) := by decide +kernel
theorem dX1_servesOnlyIfCalled_10 : decode cX1_servesOnlyIfCalled 10 = .ok (.invokestatic 95, 3) := by decide +kernel
theorem dX1_servesOnlyIfCalled_13 : decode cX1_servesOnlyIfCalled 13 = .ok (.ifCond .eq 7, 3) := by decide +kernel
theorem dX1_servesOnlyIfCalled_16 : decode cX1_servesOnlyIfCalled 16 = .ok (.iconst 1, 1) := by decide +kernel
theorem dX1_servesOnlyIfCalled_17 : decode cX1_servesOnlyIfCalled 17 = .ok (.goto 4, 3) := by decide +kernel
theorem dX1_servesOnlyIfCalled_20 : decode cX1_servesOnlyIfCalled 20 = .ok (.iconst 0, 1) := by decide +kernel
theorem dX1_servesOnlyIfCalled_21 : decode cX1_servesOnlyIfCalled 21 = .ok (.ireturn, 1) := by decide +kernel
set_option maxRecDepth 20000 in
theorem dX1_menOfMonth_0 : decode cX1_menOfMonth 0 = .ok (.iconst 0, 1) := by decide +kernel
theorem dX1_menOfMonth_1 : decode cX1_menOfMonth 1 = .ok (.istore_n 2, 1) := by decide +kernel
theorem dX1_menOfMonth_2 : decode cX1_menOfMonth 2 = .ok (.iconst 0, 1) := by decide +kernel
theorem dX1_menOfMonth_3 : decode cX1_menOfMonth 3 = .ok (.istore_n 3, 1) := by decide +kernel
theorem dX1_menOfMonth_4 : decode cX1_menOfMonth 4 = .ok (.iload_n 3, 1) := by decide +kernel
theorem dX1_menOfMonth_5 : decode cX1_menOfMonth 5 = .ok (.aload_n 0, 1) := by decide +kernel
theorem dX1_menOfMonth_6 : decode cX1_menOfMonth 6 = .ok (.getfield 24, 3) := by decide +kernel
theorem dX1_menOfMonth_9 : decode cX1_menOfMonth 9 = .ok (.getfield 98, 3) := by decide +kernel
theorem dX1_menOfMonth_12 : decode cX1_menOfMonth 12 = .ok (.if_icmp .ge 27, 3) := by decide +kernel
theorem dX1_menOfMonth_15 : decode cX1_menOfMonth 15 = .ok (.aload_n 0, 1) := by decide +kernel
theorem dX1_menOfMonth_16 : decode cX1_menOfMonth 16 = .ok (.getfield 24, 3) := by decide +kernel
theorem dX1_menOfMonth_19 : decode cX1_menOfMonth 19 = .ok (.iload_n 3, 1) := by decide +kernel
theorem dX1_menOfMonth_20 : decode cX1_menOfMonth 20 = .ok (.invokevirtual 73, 3) := by decide +kernel
theorem dX1_menOfMonth_23 : decode cX1_menOfMonth 23 = .ok (.invokestatic 164, 3) := by decide +kernel
theorem dX1_menOfMonth_26 : decode cX1_menOfMonth 26 = .ok (.iload_n 1, 1) := by decide +kernel
theorem dX1_menOfMonth_27 : decode cX1_menOfMonth 27 = .ok (.if_icmp .ne 6, 3) := by decide +kernel
theorem dX1_menOfMonth_30 : decode cX1_menOfMonth 30 = .ok (.iinc 2 1, 3) := by decide +kernel
theorem dX1_menOfMonth_33 : decode cX1_menOfMonth 33 = .ok (.iinc 3 1, 3) := by decide +kernel
theorem dX1_menOfMonth_36 : decode cX1_menOfMonth 36 = .ok (.goto (-32), 3) := by decide +kernel
theorem dX1_menOfMonth_39 : decode cX1_menOfMonth 39 = .ok (.iload_n 2, 1) := by decide +kernel
theorem dX1_menOfMonth_40 : decode cX1_menOfMonth 40 = .ok (.ireturn, 1) := by decide +kernel
set_option maxRecDepth 20000 in
theorem dX1_isShown_0 : decode cX1_isShown 0 = .ok (.aload_n 0, 1) := by decide +kernel
theorem dX1_isShown_1 : decode cX1_isShown 1 = .ok (.iload_n 1, 1) := by decide +kernel
theorem dX1_isShown_2 : decode cX1_isShown 2 = .ok (.invokevirtual 167, 3) := by decide +kernel
theorem dX1_isShown_5 : decode cX1_isShown 5 = .ok (.aload_n 0, 1) := by decide +kernel
theorem dX1_isShown_6 : decode cX1_isShown 6 = .ok (.getfield 44, 3) := by decide +kernel
theorem dX1_isShown_9 : decode cX1_isShown 9 = .ok (.if_icmp .lt 7, 3) := by decide +kernel
theorem dX1_isShown_12 : decode cX1_isShown 12 = .ok (.iconst 1, 1) := by decide +kernel
theorem dX1_isShown_13 : decode cX1_isShown 13 = .ok (.goto 4, 3) := by decide +kernel
theorem dX1_isShown_16 : decode cX1_isShown 16 = .ok (.iconst 0, 1) := by decide +kernel
theorem dX1_isShown_17 : decode cX1_isShown 17 = .ok (.ireturn, 1) := by decide +kernel
set_option maxRecDepth 20000 in
theorem dX1_findGroup_0 : decode cX1_findGroup 0 = .ok (.lconst 0, 1) := by decide +kernel
theorem dX1_findGroup_1 : decode cX1_findGroup 1 = .ok (.lstore 5, 2) := by decide +kernel
theorem dX1_findGroup_3 : decode cX1_findGroup 3 = .ok (.iconst 0, 1) := by decide +kernel
theorem dX1_findGroup_4 : decode cX1_findGroup 4 = .ok (.istore 7, 2) := by decide +kernel
theorem dX1_findGroup_6 : decode cX1_findGroup 6 = .ok (.iload 7, 2) := by decide +kernel
theorem dX1_findGroup_8 : decode cX1_findGroup 8 = .ok (.aload_n 0, 1) := by decide +kernel
theorem dX1_findGroup_9 : decode cX1_findGroup 9 = .ok (.getfield 24, 3) := by decide +kernel
theorem dX1_findGroup_12 : decode cX1_findGroup 12 = .ok (.getfield 98, 3) := by decide +kernel
theorem dX1_findGroup_15 : decode cX1_findGroup 15 = .ok (.if_icmp .ge 39, 3) := by decide +kernel
theorem dX1_findGroup_18 : decode cX1_findGroup 18 = .ok (.aload_n 0, 1) := by decide +kernel
theorem dX1_findGroup_19 : decode cX1_findGroup 19 = .ok (.getfield 24, 3) := by decide +kernel
theorem dX1_findGroup_22 : decode cX1_findGroup 22 = .ok (.iload 7, 2) := by decide +kernel
theorem dX1_findGroup_24 : decode cX1_findGroup 24 = .ok (.invokevirtual 73, 3) := by decide +kernel
theorem dX1_findGroup_27 : decode cX1_findGroup 27 = .ok (.invokestatic 164, 3) := by decide +kernel
theorem dX1_findGroup_30 : decode cX1_findGroup 30 = .ok (.iload_n 2, 1) := by decide +kernel
theorem dX1_findGroup_31 : decode cX1_findGroup 31 = .ok (.if_icmp .ne 17, 3) := by decide +kernel
theorem dX1_findGroup_34 : decode cX1_findGroup 34 = .ok (.lload 5, 2) := by decide +kernel
theorem dX1_findGroup_36 : decode cX1_findGroup 36 = .ok (.aload_n 0, 1) := by decide +kernel
theorem dX1_findGroup_37 : decode cX1_findGroup 37 = .ok (.aload_n 1, 1) := by decide +kernel
theorem dX1_findGroup_38 : decode cX1_findGroup 38 = .ok (.iload 7, 2) := by decide +kernel
theorem dX1_findGroup_40 : decode cX1_findGroup 40 = .ok (.iload_n 3, 1) := by decide +kernel
theorem dX1_findGroup_41 : decode cX1_findGroup 41 = .ok (.invokevirtual 130, 3) := by decide +kernel
theorem dX1_findGroup_44 : decode cX1_findGroup 44 = .ok (.i2l, 1) := by decide +kernel
theorem dX1_findGroup_45 : decode cX1_findGroup 45 = .ok (.ladd, 1) := by decide +kernel
theorem dX1_findGroup_46 : decode cX1_findGroup 46 = .ok (.lstore 5, 2) := by decide +kernel
theorem dX1_findGroup_48 : decode cX1_findGroup 48 = .ok (.iinc 7 1, 3) := by decide +kernel
theorem dX1_findGroup_51 : decode cX1_findGroup 51 = .ok (.goto (-45), 3) := by decide +kernel
theorem dX1_findGroup_54 : decode cX1_findGroup 54 = .ok (.aload 4, 2) := by decide +kernel
theorem dX1_findGroup_56 : decode cX1_findGroup 56 = .ok (.lload 5, 2) := by decide +kernel
theorem dX1_findGroup_58 : decode cX1_findGroup 58 = .ok (.aload_n 0, 1) := by decide +kernel
theorem dX1_findGroup_59 : decode cX1_findGroup 59 = .ok (.iload_n 2, 1) := by decide +kernel
theorem dX1_findGroup_60 : decode cX1_findGroup 60 = .ok (.invokevirtual 167, 3) := by decide +kernel
theorem dX1_findGroup_63 : decode cX1_findGroup 63 = .ok (.i2l, 1) := by decide +kernel
theorem dX1_findGroup_64 : decode cX1_findGroup 64 = .ok (.invokevirtual 157, 3) := by decide +kernel
theorem dX1_findGroup_67 : decode cX1_findGroup 67 = .ok (.return_, 1) := by decide +kernel
set_option maxRecDepth 20000 in
theorem dX1_menWithNumberUpTo_0 : decode cX1_menWithNumberUpTo 0 = .ok (.iconst 0, 1) := by decide +kernel
theorem dX1_menWithNumberUpTo_1 : decode cX1_menWithNumberUpTo 1 = .ok (.istore_n 3, 1) := by decide +kernel
theorem dX1_menWithNumberUpTo_2 : decode cX1_menWithNumberUpTo 2 = .ok (.iconst 0, 1) := by decide +kernel
theorem dX1_menWithNumberUpTo_3 : decode cX1_menWithNumberUpTo 3 = .ok (.istore 4, 2) := by decide +kernel
theorem dX1_menWithNumberUpTo_5 : decode cX1_menWithNumberUpTo 5 = .ok (.iload 4, 2) := by decide +kernel
theorem dX1_menWithNumberUpTo_7 : decode cX1_menWithNumberUpTo 7 = .ok (.aload_n 0, 1) := by decide +kernel
theorem dX1_menWithNumberUpTo_8 : decode cX1_menWithNumberUpTo 8 = .ok (.getfield 24, 3) := by decide +kernel
theorem dX1_menWithNumberUpTo_11 : decode cX1_menWithNumberUpTo 11 = .ok (.getfield 98, 3) := by decide +kernel
theorem dX1_menWithNumberUpTo_14 : decode cX1_menWithNumberUpTo 14 = .ok (.if_icmp .ge 23, 3) := by decide +kernel
theorem dX1_menWithNumberUpTo_17 : decode cX1_menWithNumberUpTo 17 = .ok (.aload_n 0, 1) := by decide +kernel
theorem dX1_menWithNumberUpTo_18 : decode cX1_menWithNumberUpTo 18 = .ok (.aload_n 1, 1) := by decide +kernel
theorem dX1_menWithNumberUpTo_19 : decode cX1_menWithNumberUpTo 19 = .ok (.iload 4, 2) := by decide +kernel
theorem dX1_menWithNumberUpTo_21 : decode cX1_menWithNumberUpTo 21 = .ok (.invokevirtual 80, 3) := by decide +kernel
theorem dX1_menWithNumberUpTo_24 : decode cX1_menWithNumberUpTo 24 = .ok (.iload_n 2, 1) := by decide +kernel
theorem dX1_menWithNumberUpTo_25 : decode cX1_menWithNumberUpTo 25 = .ok (.if_icmp .gt 6, 3) := by decide +kernel
theorem dX1_menWithNumberUpTo_28 : decode cX1_menWithNumberUpTo 28 = .ok (.iinc 3 1, 3) := by decide +kernel
theorem dX1_menWithNumberUpTo_31 : decode cX1_menWithNumberUpTo 31 = .ok (.iinc 4 1, 3) := by decide +kernel
theorem dX1_menWithNumberUpTo_34 : decode cX1_menWithNumberUpTo 34 = .ok (.goto (-29), 3) := by decide +kernel
theorem dX1_menWithNumberUpTo_37 : decode cX1_menWithNumberUpTo 37 = .ok (.iload_n 3, 1) := by decide +kernel
theorem dX1_menWithNumberUpTo_38 : decode cX1_menWithNumberUpTo 38 = .ok (.ireturn, 1) := by decide +kernel
set_option maxRecDepth 20000 in
theorem dX1_leastCutFor_0 : decode cX1_leastCutFor 0 = .ok (.iload_n 2, 1) := by decide +kernel
end
section
theorem dX1_leastCutFor_1 : decode cX1_leastCutFor 1 = .ok (.ifCond .gt 5, 3) := by decide +kernel
theorem dX1_leastCutFor_4 : decode cX1_leastCutFor 4 = .ok (.iconst 0, 1) := by decide +kernel
theorem dX1_leastCutFor_5 : decode cX1_leastCutFor 5 = .ok (.ireturn, 1) := by decide +kernel
theorem dX1_leastCutFor_6 : decode cX1_leastCutFor 6 = .ok (.bipush (-9), 2) := by decide +kernel
theorem dX1_leastCutFor_8 : decode cX1_leastCutFor 8 = .ok (.istore_n 3, 1) := by decide +kernel
theorem dX1_leastCutFor_9 : decode cX1_leastCutFor 9 = .ok (.iconst 0, 1) := by decide +kernel
theorem dX1_leastCutFor_10 : decode cX1_leastCutFor 10 = .ok (.istore 4, 2) := by decide +kernel
theorem dX1_leastCutFor_12 : decode cX1_leastCutFor 12 = .ok (.iload 4, 2) := by decide +kernel
theorem dX1_leastCutFor_14 : decode cX1_leastCutFor 14 = .ok (.aload_n 0, 1) := by decide +kernel
theorem dX1_leastCutFor_15 : decode cX1_leastCutFor 15 = .ok (.getfield 24, 3) := by decide +kernel
theorem dX1_leastCutFor_18 : decode cX1_leastCutFor 18 = .ok (.getfield 98, 3) := by decide +kernel
theorem dX1_leastCutFor_21 : decode cX1_leastCutFor 21 = .ok (.if_icmp .ge 56, 3) := by decide +kernel
theorem dX1_leastCutFor_24 : decode cX1_leastCutFor 24 = .ok (.aload_n 0, 1) := by decide +kernel
theorem dX1_leastCutFor_25 : decode cX1_leastCutFor 25 = .ok (.aload_n 1, 1) := by decide +kernel
theorem dX1_leastCutFor_26 : decode cX1_leastCutFor 26 = .ok (.iload 4, 2) := by decide +kernel
theorem dX1_leastCutFor_28 : decode cX1_leastCutFor 28 = .ok (.invokevirtual 80, 3) := by decide +kernel
theorem dX1_leastCutFor_31 : decode cX1_leastCutFor 31 = .ok (.istore 5, 2) := by decide +kernel
theorem dX1_leastCutFor_33 : decode cX1_leastCutFor 33 = .ok (.iload_n 3, 1) := by decide +kernel
theorem dX1_leastCutFor_34 : decode cX1_leastCutFor 34 = .ok (.bipush (-9), 2) := by decide +kernel
theorem dX1_leastCutFor_36 : decode cX1_leastCutFor 36 = .ok (.if_icmp .eq 9, 3) := by decide +kernel
theorem dX1_leastCutFor_39 : decode cX1_leastCutFor 39 = .ok (.iload 5, 2) := by decide +kernel
theorem dX1_leastCutFor_41 : decode cX1_leastCutFor 41 = .ok (.iload_n 3, 1) := by decide +kernel
theorem dX1_leastCutFor_42 : decode cX1_leastCutFor 42 = .ok (.if_icmp .ge 7, 3) := by decide +kernel
theorem dX1_leastCutFor_45 : decode cX1_leastCutFor 45 = .ok (.iconst 1, 1) := by decide +kernel
theorem dX1_leastCutFor_46 : decode cX1_leastCutFor 46 = .ok (.goto 4, 3) := by decide +kernel
theorem dX1_leastCutFor_49 : decode cX1_leastCutFor 49 = .ok (.iconst 0, 1) := by decide +kernel
theorem dX1_leastCutFor_50 : decode cX1_leastCutFor 50 = .ok (.istore 6, 2) := by decide +kernel
theorem dX1_leastCutFor_52 : decode cX1_leastCutFor 52 = .ok (.iload 6, 2) := by decide +kernel
theorem dX1_leastCutFor_54 : decode cX1_leastCutFor 54 = .ok (.ifCond .eq 17, 3) := by decide +kernel
theorem dX1_leastCutFor_57 : decode cX1_leastCutFor 57 = .ok (.aload_n 0, 1) := by decide +kernel
theorem dX1_leastCutFor_58 : decode cX1_leastCutFor 58 = .ok (.aload_n 1, 1) := by decide +kernel
theorem dX1_leastCutFor_59 : decode cX1_leastCutFor 59 = .ok (.iload 5, 2) := by decide +kernel
theorem dX1_leastCutFor_61 : decode cX1_leastCutFor 61 = .ok (.invokevirtual 170, 3) := by decide +kernel
theorem dX1_leastCutFor_64 : decode cX1_leastCutFor 64 = .ok (.iload_n 2, 1) := by decide +kernel
theorem dX1_leastCutFor_65 : decode cX1_leastCutFor 65 = .ok (.if_icmp .lt 6, 3) := by decide +kernel
theorem dX1_leastCutFor_68 : decode cX1_leastCutFor 68 = .ok (.iload 5, 2) := by decide +kernel
theorem dX1_leastCutFor_70 : decode cX1_leastCutFor 70 = .ok (.istore_n 3, 1) := by decide +kernel
theorem dX1_leastCutFor_71 : decode cX1_leastCutFor 71 = .ok (.iinc 4 1, 3) := by decide +kernel
theorem dX1_leastCutFor_74 : decode cX1_leastCutFor 74 = .ok (.goto (-62), 3) := by decide +kernel
theorem dX1_leastCutFor_77 : decode cX1_leastCutFor 77 = .ok (.iload_n 3, 1) := by decide +kernel
theorem dX1_leastCutFor_78 : decode cX1_leastCutFor 78 = .ok (.ireturn, 1) := by decide +kernel
theorem dX2_init_0 : decode cX2_init 0 = .ok (.aload_n 0, 1) := by decide +kernel
theorem dX2_init_1 : decode cX2_init 1 = .ok (.invokespecial 3, 3) := by decide +kernel
theorem dX2_init_4 : decode cX2_init 4 = .ok (.aload_n 0, 1) := by decide +kernel
theorem dX2_init_5 : decode cX2_init 5 = .ok (.bipush 60, 2) := by decide +kernel
theorem dX2_init_7 : decode cX2_init 7 = .ok (.newarray .int, 2) := by decide +kernel
theorem dX2_init_9 : decode cX2_init 9 = .ok (.putfield 9, 3) := by decide +kernel
theorem dX2_init_12 : decode cX2_init 12 = .ok (.aload_n 0, 1) := by decide +kernel
theorem dX2_init_13 : decode cX2_init 13 = .ok (.bipush 60, 2) := by decide +kernel
theorem dX2_init_15 : decode cX2_init 15 = .ok (.newarray .int, 2) := by decide +kernel
theorem dX2_init_17 : decode cX2_init 17 = .ok (.putfield 15, 3) := by decide +kernel
theorem dX2_init_20 : decode cX2_init 20 = .ok (.aload_n 0, 1) := by decide +kernel
theorem dX2_init_21 : decode cX2_init 21 = .ok (.bipush 60, 2) := by decide +kernel
theorem dX2_init_23 : decode cX2_init 23 = .ok (.newarray .int, 2) := by decide +kernel
theorem dX2_init_25 : decode cX2_init 25 = .ok (.putfield 18, 3) := by decide +kernel
theorem dX2_init_28 : decode cX2_init 28 = .ok (.aload_n 0, 1) := by decide +kernel
theorem dX2_init_29 : decode cX2_init 29 = .ok (.iconst 0, 1) := by decide +kernel
theorem dX2_init_30 : decode cX2_init 30 = .ok (.putfield 21, 3) := by decide +kernel
theorem dX2_init_33 : decode cX2_init 33 = .ok (.return_, 1) := by decide +kernel
set_option maxRecDepth 20000 in
theorem dX2_enrol_0 : decode cX2_enrol 0 = .ok (.aload_n 0, 1) := by decide +kernel
theorem dX2_enrol_1 : decode cX2_enrol 1 = .ok (.getfield 21, 3) := by decide +kernel
theorem dX2_enrol_4 : decode cX2_enrol 4 = .ok (.istore 4, 2) := by decide +kernel
theorem dX2_enrol_6 : decode cX2_enrol 6 = .ok (.aload_n 0, 1) := by decide +kernel
theorem dX2_enrol_7 : decode cX2_enrol 7 = .ok (.getfield 9, 3) := by decide +kernel
theorem dX2_enrol_10 : decode cX2_enrol 10 = .ok (.iload 4, 2) := by decide +kernel
theorem dX2_enrol_12 : decode cX2_enrol 12 = .ok (.iload_n 1, 1) := by decide +kernel
theorem dX2_enrol_13 : decode cX2_enrol 13 = .ok (.invokestatic 25, 3) := by decide +kernel
theorem dX2_enrol_16 : decode cX2_enrol 16 = .ok (.aload_n 0, 1) := by decide +kernel
theorem dX2_enrol_17 : decode cX2_enrol 17 = .ok (.getfield 15, 3) := by decide +kernel
theorem dX2_enrol_20 : decode cX2_enrol 20 = .ok (.iload 4, 2) := by decide +kernel
theorem dX2_enrol_22 : decode cX2_enrol 22 = .ok (.iload_n 2, 1) := by decide +kernel
theorem dX2_enrol_23 : decode cX2_enrol 23 = .ok (.invokestatic 25, 3) := by decide +kernel
theorem dX2_enrol_26 : decode cX2_enrol 26 = .ok (.aload_n 0, 1) := by decide +kernel
theorem dX2_enrol_27 : decode cX2_enrol 27 = .ok (.getfield 18, 3) := by decide +kernel
theorem dX2_enrol_30 : decode cX2_enrol 30 = .ok (.iload 4, 2) := by decide +kernel
theorem dX2_enrol_32 : decode cX2_enrol 32 = .ok (.iload_n 3, 1) := by decide +kernel
theorem dX2_enrol_33 : decode cX2_enrol 33 = .ok (.invokestatic 25, 3) := by decide +kernel
theorem dX2_enrol_36 : decode cX2_enrol 36 = .ok (.aload_n 0, 1) := by decide +kernel
theorem dX2_enrol_37 : decode cX2_enrol 37 = .ok (.dup, 1) := by decide +kernel
theorem dX2_enrol_38 : decode cX2_enrol 38 = .ok (.getfield 21, 3) := by decide +kernel
theorem dX2_enrol_41 : decode cX2_enrol 41 = .ok (.iconst 1, 1) := by decide +kernel
theorem dX2_enrol_42 : decode cX2_enrol 42 = .ok (.iadd, 1) := by decide +kernel
theorem dX2_enrol_43 : decode cX2_enrol 43 = .ok (.putfield 21, 3) := by decide +kernel
theorem dX2_enrol_46 : decode cX2_enrol 46 = .ok (.iload 4, 2) := by decide +kernel
theorem dX2_enrol_48 : decode cX2_enrol 48 = .ok (.ireturn, 1) := by decide +kernel
set_option maxRecDepth 20000 in
theorem dX2_copyMen_0 : decode cX2_copyMen 0 = .ok (.aload_n 1, 1) := by decide +kernel
theorem dX2_copyMen_1 : decode cX2_copyMen 1 = .ok (.getfield 9, 3) := by decide +kernel
theorem dX2_copyMen_4 : decode cX2_copyMen 4 = .ok (.aload_n 0, 1) := by decide +kernel
theorem dX2_copyMen_5 : decode cX2_copyMen 5 = .ok (.getfield 9, 3) := by decide +kernel
theorem dX2_copyMen_8 : decode cX2_copyMen 8 = .ok (.invokestatic 29, 3) := by decide +kernel
theorem dX2_copyMen_11 : decode cX2_copyMen 11 = .ok (.aload_n 1, 1) := by decide +kernel
theorem dX2_copyMen_12 : decode cX2_copyMen 12 = .ok (.getfield 15, 3) := by decide +kernel
theorem dX2_copyMen_15 : decode cX2_copyMen 15 = .ok (.aload_n 0, 1) := by decide +kernel
theorem dX2_copyMen_16 : decode cX2_copyMen 16 = .ok (.getfield 15, 3) := by decide +kernel
theorem dX2_copyMen_19 : decode cX2_copyMen 19 = .ok (.invokestatic 29, 3) := by decide +kernel
theorem dX2_copyMen_22 : decode cX2_copyMen 22 = .ok (.aload_n 1, 1) := by decide +kernel
theorem dX2_copyMen_23 : decode cX2_copyMen 23 = .ok (.getfield 18, 3) := by decide +kernel
theorem dX2_copyMen_26 : decode cX2_copyMen 26 = .ok (.aload_n 0, 1) := by decide +kernel
theorem dX2_copyMen_27 : decode cX2_copyMen 27 = .ok (.getfield 18, 3) := by decide +kernel
theorem dX2_copyMen_30 : decode cX2_copyMen 30 = .ok (.invokestatic 29, 3) := by decide +kernel
theorem dX2_copyMen_33 : decode cX2_copyMen 33 = .ok (.aload_n 0, 1) := by decide +kernel
theorem dX2_copyMen_34 : decode cX2_copyMen 34 = .ok (.aload_n 1, 1) := by decide +kernel
theorem dX2_copyMen_35 : decode cX2_copyMen 35 = .ok (.getfield 21, 3) := by decide +kernel
theorem dX2_copyMen_38 : decode cX2_copyMen 38 = .ok (.putfield 21, 3) := by decide +kernel
theorem dX2_copyMen_41 : decode cX2_copyMen 41 = .ok (.return_, 1) := by decide +kernel
set_option maxRecDepth 20000 in
theorem dX2_kindAt_0 : decode cX2_kindAt 0 = .ok (.aload_n 0, 1) := by decide +kernel
theorem dX2_kindAt_1 : decode cX2_kindAt 1 = .ok (.getfield 9, 3) := by decide +kernel
theorem dX2_kindAt_4 : decode cX2_kindAt 4 = .ok (.iload_n 1, 1) := by decide +kernel
theorem dX2_kindAt_5 : decode cX2_kindAt 5 = .ok (.invokestatic 33, 3) := by decide +kernel
theorem dX2_kindAt_8 : decode cX2_kindAt 8 = .ok (.ireturn, 1) := by decide +kernel
set_option maxRecDepth 20000 in
theorem dX2_birthdayAt_0 : decode cX2_birthdayAt 0 = .ok (.aload_n 0, 1) := by decide +kernel
theorem dX2_birthdayAt_1 : decode cX2_birthdayAt 1 = .ok (.getfield 15, 3) := by decide +kernel
theorem dX2_birthdayAt_4 : decode cX2_birthdayAt 4 = .ok (.iload_n 1, 1) := by decide +kernel
theorem dX2_birthdayAt_5 : decode cX2_birthdayAt 5 = .ok (.invokestatic 33, 3) := by decide +kernel
theorem dX2_birthdayAt_8 : decode cX2_birthdayAt 8 = .ok (.ireturn, 1) := by decide +kernel
set_option maxRecDepth 20000 in
theorem dX2_payAt_0 : decode cX2_payAt 0 = .ok (.aload_n 0, 1) := by decide +kernel
theorem dX2_payAt_1 : decode cX2_payAt 1 = .ok (.getfield 18, 3) := by decide +kernel
theorem dX2_payAt_4 : decode cX2_payAt 4 = .ok (.iload_n 1, 1) := by decide +kernel
theorem dX2_payAt_5 : decode cX2_payAt 5 = .ok (.invokestatic 33, 3) := by decide +kernel
theorem dX2_payAt_8 : decode cX2_payAt 8 = .ok (.ireturn, 1) := by decide +kernel
theorem dX3_init_0 : decode cX3_init 0 = .ok (.aload_n 0, 1) := by decide +kernel
theorem dX3_init_1 : decode cX3_init 1 = .ok (.invokespecial 1, 3) := by decide +kernel
theorem dX3_init_4 : decode cX3_init 4 = .ok (.aload_n 0, 1) := by decide +kernel
theorem dX3_init_5 : decode cX3_init 5 = .ok (.lconst 0, 1) := by decide +kernel
theorem dX3_init_6 : decode cX3_init 6 = .ok (.putfield 7, 3) := by decide +kernel
theorem dX3_init_9 : decode cX3_init 9 = .ok (.aload_n 0, 1) := by decide +kernel
theorem dX3_init_10 : decode cX3_init 10 = .ok (.lconst 1, 1) := by decide +kernel
theorem dX3_init_11 : decode cX3_init 11 = .ok (.putfield 13, 3) := by decide +kernel
theorem dX3_init_14 : decode cX3_init 14 = .ok (.return_, 1) := by decide +kernel
set_option maxRecDepth 20000 in
theorem dX3_become_0 : decode cX3_become 0 = .ok (.lload_n 1, 1) := by decide +kernel
theorem dX3_become_1 : decode cX3_become 1 = .ok (.invokestatic 16, 3) := by decide +kernel
theorem dX3_become_4 : decode cX3_become 4 = .ok (.lload_n 3, 1) := by decide +kernel
theorem dX3_become_5 : decode cX3_become 5 = .ok (.invokestatic 16, 3) := by decide +kernel
theorem dX3_become_8 : decode cX3_become 8 = .ok (.invokestatic 22, 3) := by decide +kernel
theorem dX3_become_11 : decode cX3_become 11 = .ok (.lstore 5, 2) := by decide +kernel
theorem dX3_become_13 : decode cX3_become 13 = .ok (.lload_n 3, 1) := by decide +kernel
theorem dX3_become_14 : decode cX3_become 14 = .ok (.lconst 0, 1) := by decide +kernel
theorem dX3_become_15 : decode cX3_become 15 = .ok (.lcmp, 1) := by decide +kernel
theorem dX3_become_16 : decode cX3_become 16 = .ok (.ifCond .eq 10, 3) := by decide +kernel
theorem dX3_become_19 : decode cX3_become 19 = .ok (.lload 5, 2) := by decide +kernel
theorem dX3_become_21 : decode cX3_become 21 = .ok (.lconst 0, 1) := by decide +kernel
theorem dX3_become_22 : decode cX3_become 22 = .ok (.lcmp, 1) := by decide +kernel
theorem dX3_become_23 : decode cX3_become 23 = .ok (.ifCond .ne 14, 3) := by decide +kernel
theorem dX3_become_26 : decode cX3_become 26 = .ok (.aload_n 0, 1) := by decide +kernel
theorem dX3_become_27 : decode cX3_become 27 = .ok (.lconst 0, 1) := by decide +kernel
theorem dX3_become_28 : decode cX3_become 28 = .ok (.putfield 7, 3) := by decide +kernel
theorem dX3_become_31 : decode cX3_become 31 = .ok (.aload_n 0, 1) := by decide +kernel
theorem dX3_become_32 : decode cX3_become 32 = .ok (.lconst 1, 1) := by decide +kernel
theorem dX3_become_33 : decode cX3_become 33 = .ok (.putfield 13, 3) := by decide +kernel
theorem dX3_become_36 : decode cX3_become 36 = .ok (.return_, 1) := by decide +kernel
theorem dX3_become_37 : decode cX3_become 37 = .ok (.lload_n 3, 1) := by decide +kernel
theorem dX3_become_38 : decode cX3_become 38 = .ok (.lconst 0, 1) := by decide +kernel
theorem dX3_become_39 : decode cX3_become 39 = .ok (.lcmp, 1) := by decide +kernel
theorem dX3_become_40 : decode cX3_become 40 = .ok (.ifCond .ge 9, 3) := by decide +kernel
theorem dX3_become_43 : decode cX3_become 43 = .ok (.ldc2_w 26, 3) := by decide +kernel
theorem dX3_become_46 : decode cX3_become 46 = .ok (.goto 4, 3) := by decide +kernel
theorem dX3_become_49 : decode cX3_become 49 = .ok (.lconst 1, 1) := by decide +kernel
theorem dX3_become_50 : decode cX3_become 50 = .ok (.lstore 7, 2) := by decide +kernel
theorem dX3_become_52 : decode cX3_become 52 = .ok (.aload_n 0, 1) := by decide +kernel
theorem dX3_become_53 : decode cX3_become 53 = .ok (.lload 7, 2) := by decide +kernel
theorem dX3_become_55 : decode cX3_become 55 = .ok (.lload_n 1, 1) := by decide +kernel
theorem dX3_become_56 : decode cX3_become 56 = .ok (.lload 5, 2) := by decide +kernel
theorem dX3_become_58 : decode cX3_become 58 = .ok (.ldiv, 1) := by decide +kernel
theorem dX3_become_59 : decode cX3_become 59 = .ok (.lmul, 1) := by decide +kernel
theorem dX3_become_60 : decode cX3_become 60 = .ok (.putfield 7, 3) := by decide +kernel
theorem dX3_become_63 : decode cX3_become 63 = .ok (.aload_n 0, 1) := by decide +kernel
theorem dX3_become_64 : decode cX3_become 64 = .ok (.lload 7, 2) := by decide +kernel
theorem dX3_become_66 : decode cX3_become 66 = .ok (.lload_n 3, 1) := by decide +kernel
theorem dX3_become_67 : decode cX3_become 67 = .ok (.lload 5, 2) := by decide +kernel
theorem dX3_become_69 : decode cX3_become 69 = .ok (.ldiv, 1) := by decide +kernel
theorem dX3_become_70 : decode cX3_become 70 = .ok (.lmul, 1) := by decide +kernel
theorem dX3_become_71 : decode cX3_become 71 = .ok (.putfield 13, 3) := by decide +kernel
theorem dX3_become_74 : decode cX3_become 74 = .ok (.return_, 1) := by decide +kernel
theorem dX3_partAt_0 : decode cX3_partAt 0 = .ok (.iload_n 1, 1) := by decide +kernel
theorem dX3_partAt_1 : decode cX3_partAt 1 = .ok (.ifCond .ne 10, 3) := by decide +kernel
theorem dX3_partAt_4 : decode cX3_partAt 4 = .ok (.aload_n 0, 1) := by decide +kernel
theorem dX3_partAt_5 : decode cX3_partAt 5 = .ok (.getfield 7, 3) := by decide +kernel
theorem dX3_partAt_8 : decode cX3_partAt 8 = .ok (.goto 7, 3) := by decide +kernel
theorem dX3_partAt_11 : decode cX3_partAt 11 = .ok (.aload_n 0, 1) := by decide +kernel
theorem dX3_partAt_12 : decode cX3_partAt 12 = .ok (.getfield 13, 3) := by decide +kernel
theorem dX3_partAt_15 : decode cX3_partAt 15 = .ok (.lreturn, 1) := by decide +kernel
theorem dX3_isWithin_0 : decode cX3_isWithin 0 = .ok (.aload_n 0, 1) := by decide +kernel
theorem dX3_isWithin_1 : decode cX3_isWithin 1 = .ok (.getfield 7, 3) := by decide +kernel
theorem dX3_isWithin_4 : decode cX3_isWithin 4 = .ok (.invokestatic 16, 3) := by decide +kernel
theorem dX3_isWithin_7 : decode cX3_isWithin 7 = .ok (.lload_n 1, 1) := by decide +kernel
theorem dX3_isWithin_8 : decode cX3_isWithin 8 = .ok (.aload_n 0, 1) := by decide +kernel
theorem dX3_isWithin_9 : decode cX3_isWithin 9 = .ok (.getfield 13, 3) := by decide +kernel
theorem dX3_isWithin_12 : decode cX3_isWithin 12 = .ok (.lmul, 1) := by decide +kernel
theorem dX3_isWithin_13 : decode cX3_isWithin 13 = .ok (.lcmp, 1) := by decide +kernel
theorem dX3_isWithin_14 : decode cX3_isWithin 14 = .ok (.ifCond .gt 7, 3) := by decide +kernel
theorem dX3_isWithin_17 : decode cX3_isWithin 17 = .ok (.iconst 1, 1) := by decide +kernel
theorem dX3_isWithin_18 : decode cX3_isWithin 18 = .ok (.goto 4, 3) := by decide +kernel
theorem dX3_isWithin_21 : decode cX3_isWithin 21 = .ok (.iconst 0, 1) := by decide +kernel
theorem dX3_isWithin_22 : decode cX3_isWithin 22 = .ok (.ireturn, 1) := by decide +kernel
theorem dX3_commonDivisor_0 : decode cX3_commonDivisor 0 = .ok (.lload_n 0, 1) := by decide +kernel
theorem dX3_commonDivisor_1 : decode cX3_commonDivisor 1 = .ok (.lstore 4, 2) := by decide +kernel
theorem dX3_commonDivisor_3 : decode cX3_commonDivisor 3 = .ok (.lload_n 2, 1) := by decide +kernel
theorem dX3_commonDivisor_4 : decode cX3_commonDivisor 4 = .ok (.lstore 6, 2) := by decide +kernel
theorem dX3_commonDivisor_6 : decode cX3_commonDivisor 6 = .ok (.iconst 0, 1) := by decide +kernel
theorem dX3_commonDivisor_7 : decode cX3_commonDivisor 7 = .ok (.istore 8, 2) := by decide +kernel
theorem dX3_commonDivisor_9 : decode cX3_commonDivisor 9 = .ok (.iload 8, 2) := by decide +kernel
theorem dX3_commonDivisor_11 : decode cX3_commonDivisor 11 = .ok (.bipush 100, 2) := by decide +kernel
theorem dX3_commonDivisor_13 : decode cX3_commonDivisor 13 = .ok (.if_icmp .ge 31, 3) := by decide +kernel
theorem dX3_commonDivisor_16 : decode cX3_commonDivisor 16 = .ok (.lload 6, 2) := by decide +kernel
theorem dX3_commonDivisor_18 : decode cX3_commonDivisor 18 = .ok (.lconst 0, 1) := by decide +kernel
theorem dX3_commonDivisor_19 : decode cX3_commonDivisor 19 = .ok (.lcmp, 1) := by decide +kernel
theorem dX3_commonDivisor_20 : decode cX3_commonDivisor 20 = .ok (.ifCond .eq 24, 3) := by decide +kernel
theorem dX3_commonDivisor_23 : decode cX3_commonDivisor 23 = .ok (.lload 4, 2) := by decide +kernel
theorem dX3_commonDivisor_25 : decode cX3_commonDivisor 25 = .ok (.lload 6, 2) := by decide +kernel
theorem dX3_commonDivisor_27 : decode cX3_commonDivisor 27 = .ok (.lrem, 1) := by decide +kernel
theorem dX3_commonDivisor_28 : decode cX3_commonDivisor 28 = .ok (.lstore 9, 2) := by decide +kernel
theorem dX3_commonDivisor_30 : decode cX3_commonDivisor 30 = .ok (.lload 6, 2) := by decide +kernel
theorem dX3_commonDivisor_32 : decode cX3_commonDivisor 32 = .ok (.lstore 4, 2) := by decide +kernel
theorem dX3_commonDivisor_34 : decode cX3_commonDivisor 34 = .ok (.lload 9, 2) := by decide +kernel
theorem dX3_commonDivisor_36 : decode cX3_commonDivisor 36 = .ok (.lstore 6, 2) := by decide +kernel
theorem dX3_commonDivisor_38 : decode cX3_commonDivisor 38 = .ok (.iinc 8 1, 3) := by decide +kernel
theorem dX3_commonDivisor_41 : decode cX3_commonDivisor 41 = .ok (.goto (-32), 3) := by decide +kernel
theorem dX3_commonDivisor_44 : decode cX3_commonDivisor 44 = .ok (.lload 4, 2) := by decide +kernel
theorem dX3_commonDivisor_46 : decode cX3_commonDivisor 46 = .ok (.lreturn, 1) := by decide +kernel
theorem dX4_init_0 : decode cX4_init 0 = .ok (.aload_n 0, 1) := by decide +kernel
theorem dX4_init_1 : decode cX4_init 1 = .ok (.invokespecial 1, 3) := by decide +kernel
theorem dX4_init_4 : decode cX4_init 4 = .ok (.aload_n 0, 1) := by decide +kernel
theorem dX4_init_5 : decode cX4_init 5 = .ok (.lconst 0, 1) := by decide +kernel
theorem dX4_init_6 : decode cX4_init 6 = .ok (.putfield 7, 3) := by decide +kernel
theorem dX4_init_9 : decode cX4_init 9 = .ok (.aload_n 0, 1) := by decide +kernel
theorem dX4_init_10 : decode cX4_init 10 = .ok (.lconst 0, 1) := by decide +kernel
theorem dX4_init_11 : decode cX4_init 11 = .ok (.putfield 13, 3) := by decide +kernel
theorem dX4_init_14 : decode cX4_init 14 = .ok (.aload_n 0, 1) := by decide +kernel
theorem dX4_init_15 : decode cX4_init 15 = .ok (.iconst 0, 1) := by decide +kernel
theorem dX4_init_16 : decode cX4_init 16 = .ok (.putfield 16, 3) := by decide +kernel
theorem dX4_init_19 : decode cX4_init 19 = .ok (.aload_n 0, 1) := by decide +kernel
theorem dX4_init_20 : decode cX4_init 20 = .ok (.iconst 0, 1) := by decide +kernel
theorem dX4_init_21 : decode cX4_init 21 = .ok (.putfield 20, 3) := by decide +kernel
theorem dX4_init_24 : decode cX4_init 24 = .ok (.return_, 1) := by decide +kernel
theorem dX4_clear_0 : decode cX4_clear 0 = .ok (.aload_n 0, 1) := by decide +kernel
theorem dX4_clear_1 : decode cX4_clear 1 = .ok (.lconst 0, 1) := by decide +kernel
theorem dX4_clear_2 : decode cX4_clear 2 = .ok (.putfield 7, 3) := by decide +kernel
theorem dX4_clear_5 : decode cX4_clear 5 = .ok (.aload_n 0, 1) := by decide +kernel
theorem dX4_clear_6 : decode cX4_clear 6 = .ok (.lconst 0, 1) := by decide +kernel
theorem dX4_clear_7 : decode cX4_clear 7 = .ok (.putfield 13, 3) := by decide +kernel
theorem dX4_clear_10 : decode cX4_clear 10 = .ok (.aload_n 0, 1) := by decide +kernel
theorem dX4_clear_11 : decode cX4_clear 11 = .ok (.iconst 0, 1) := by decide +kernel
theorem dX4_clear_12 : decode cX4_clear 12 = .ok (.putfield 16, 3) := by decide +kernel
theorem dX4_clear_15 : decode cX4_clear 15 = .ok (.aload_n 0, 1) := by decide +kernel
theorem dX4_clear_16 : decode cX4_clear 16 = .ok (.iconst 0, 1) := by decide +kernel
theorem dX4_clear_17 : decode cX4_clear 17 = .ok (.putfield 20, 3) := by decide +kernel
theorem dX4_clear_20 : decode cX4_clear 20 = .ok (.return_, 1) := by decide +kernel
theorem dX4_enter_0 : decode cX4_enter 0 = .ok (.iload_n 1, 1) := by decide +kernel
theorem dX4_enter_1 : decode cX4_enter 1 = .ok (.ifCond .eq 26, 3) := by decide +kernel
theorem dX4_enter_4 : decode cX4_enter 4 = .ok (.aload_n 0, 1) := by decide +kernel
theorem dX4_enter_5 : decode cX4_enter 5 = .ok (.dup, 1) := by decide +kernel
theorem dX4_enter_6 : decode cX4_enter 6 = .ok (.getfield 7, 3) := by decide +kernel
theorem dX4_enter_9 : decode cX4_enter 9 = .ok (.lload_n 2, 1) := by decide +kernel
theorem dX4_enter_10 : decode cX4_enter 10 = .ok (.ladd, 1) := by decide +kernel
theorem dX4_enter_11 : decode cX4_enter 11 = .ok (.putfield 7, 3) := by decide +kernel
theorem dX4_enter_14 : decode cX4_enter 14 = .ok (.aload_n 0, 1) := by decide +kernel
theorem dX4_enter_15 : decode cX4_enter 15 = .ok (.dup, 1) := by decide +kernel
theorem dX4_enter_16 : decode cX4_enter 16 = .ok (.getfield 16, 3) := by decide +kernel
theorem dX4_enter_19 : decode cX4_enter 19 = .ok (.iconst 1, 1) := by decide +kernel
theorem dX4_enter_20 : decode cX4_enter 20 = .ok (.iadd, 1) := by decide +kernel
theorem dX4_enter_21 : decode cX4_enter 21 = .ok (.putfield 16, 3) := by decide +kernel
theorem dX4_enter_24 : decode cX4_enter 24 = .ok (.goto 23, 3) := by decide +kernel
theorem dX4_enter_27 : decode cX4_enter 27 = .ok (.aload_n 0, 1) := by decide +kernel
theorem dX4_enter_28 : decode cX4_enter 28 = .ok (.dup, 1) := by decide +kernel
theorem dX4_enter_29 : decode cX4_enter 29 = .ok (.getfield 13, 3) := by decide +kernel
theorem dX4_enter_32 : decode cX4_enter 32 = .ok (.lload_n 2, 1) := by decide +kernel
theorem dX4_enter_33 : decode cX4_enter 33 = .ok (.ladd, 1) := by decide +kernel
theorem dX4_enter_34 : decode cX4_enter 34 = .ok (.putfield 13, 3) := by decide +kernel
theorem dX4_enter_37 : decode cX4_enter 37 = .ok (.aload_n 0, 1) := by decide +kernel
theorem dX4_enter_38 : decode cX4_enter 38 = .ok (.dup, 1) := by decide +kernel
theorem dX4_enter_39 : decode cX4_enter 39 = .ok (.getfield 20, 3) := by decide +kernel
theorem dX4_enter_42 : decode cX4_enter 42 = .ok (.iconst 1, 1) := by decide +kernel
theorem dX4_enter_43 : decode cX4_enter 43 = .ok (.iadd, 1) := by decide +kernel
theorem dX4_enter_44 : decode cX4_enter 44 = .ok (.putfield 20, 3) := by decide +kernel
theorem dX4_enter_47 : decode cX4_enter 47 = .ok (.return_, 1) := by decide +kernel
set_option maxRecDepth 20000 in
theorem dX4_findGap_0 : decode cX4_findGap 0 = .ok (.aload_n 0, 1) := by decide +kernel
theorem dX4_findGap_1 : decode cX4_findGap 1 = .ok (.getfield 16, 3) := by decide +kernel
theorem dX4_findGap_4 : decode cX4_findGap 4 = .ok (.ifCond .eq 10, 3) := by decide +kernel
theorem dX4_findGap_7 : decode cX4_findGap 7 = .ok (.aload_n 0, 1) := by decide +kernel
theorem dX4_findGap_8 : decode cX4_findGap 8 = .ok (.getfield 20, 3) := by decide +kernel
theorem dX4_findGap_11 : decode cX4_findGap 11 = .ok (.ifCond .ne 5, 3) := by decide +kernel
theorem dX4_findGap_14 : decode cX4_findGap 14 = .ok (.iconst 0, 1) := by decide +kernel
theorem dX4_findGap_15 : decode cX4_findGap 15 = .ok (.ireturn, 1) := by decide +kernel
theorem dX4_findGap_16 : decode cX4_findGap 16 = .ok (.aload_n 1, 1) := by decide +kernel
theorem dX4_findGap_17 : decode cX4_findGap 17 = .ok (.aload_n 0, 1) := by decide +kernel
theorem dX4_findGap_18 : decode cX4_findGap 18 = .ok (.getfield 7, 3) := by decide +kernel
theorem dX4_findGap_21 : decode cX4_findGap 21 = .ok (.aload_n 0, 1) := by decide +kernel
theorem dX4_findGap_22 : decode cX4_findGap 22 = .ok (.getfield 20, 3) := by decide +kernel
theorem dX4_findGap_25 : decode cX4_findGap 25 = .ok (.i2l, 1) := by decide +kernel
theorem dX4_findGap_26 : decode cX4_findGap 26 = .ok (.lmul, 1) := by decide +kernel
theorem dX4_findGap_27 : decode cX4_findGap 27 = .ok (.aload_n 0, 1) := by decide +kernel
theorem dX4_findGap_28 : decode cX4_findGap 28 = .ok (.getfield 13, 3) := by decide +kernel
theorem dX4_findGap_31 : decode cX4_findGap 31 = .ok (.aload_n 0, 1) := by decide +kernel
theorem dX4_findGap_32 : decode cX4_findGap 32 = .ok (.getfield 16, 3) := by decide +kernel
theorem dX4_findGap_35 : decode cX4_findGap 35 = .ok (.i2l, 1) := by decide +kernel
theorem dX4_findGap_36 : decode cX4_findGap 36 = .ok (.lmul, 1) := by decide +kernel
theorem dX4_findGap_37 : decode cX4_findGap 37 = .ok (.lsub, 1) := by decide +kernel
theorem dX4_findGap_38 : decode cX4_findGap 38 = .ok (.aload_n 0, 1) := by decide +kernel
theorem dX4_findGap_39 : decode cX4_findGap 39 = .ok (.getfield 16, 3) := by decide +kernel
theorem dX4_findGap_42 : decode cX4_findGap 42 = .ok (.i2l, 1) := by decide +kernel
theorem dX4_findGap_43 : decode cX4_findGap 43 = .ok (.aload_n 0, 1) := by decide +kernel
theorem dX4_findGap_44 : decode cX4_findGap 44 = .ok (.getfield 20, 3) := by decide +kernel
theorem dX4_findGap_47 : decode cX4_findGap 47 = .ok (.i2l, 1) := by decide +kernel
theorem dX4_findGap_48 : decode cX4_findGap 48 = .ok (.lmul, 1) := by decide +kernel
theorem dX4_findGap_49 : decode cX4_findGap 49 = .ok (.invokevirtual 23, 3) := by decide +kernel
theorem dX4_findGap_52 : decode cX4_findGap 52 = .ok (.iconst 1, 1) := by decide +kernel
theorem dX4_findGap_53 : decode cX4_findGap 53 = .ok (.ireturn, 1) := by decide +kernel
theorem dX5_init_0 : decode cX5_init 0 = .ok (.aload_n 0, 1) := by decide +kernel
theorem dX5_init_1 : decode cX5_init 1 = .ok (.invokespecial 3, 3) := by decide +kernel
theorem dX5_init_4 : decode cX5_init 4 = .ok (.aload_n 0, 1) := by decide +kernel
theorem dX5_init_5 : decode cX5_init 5 = .ok (.bipush 14, 2) := by decide +kernel
theorem dX5_init_7 : decode cX5_init 7 = .ok (.newarray .int, 2) := by decide +kernel
theorem dX5_init_9 : decode cX5_init 9 = .ok (.putfield 9, 3) := by decide +kernel
theorem dX5_init_12 : decode cX5_init 12 = .ok (.aload_n 0, 1) := by decide +kernel
theorem dX5_init_13 : decode cX5_init 13 = .ok (.iconst 0, 1) := by decide +kernel
theorem dX5_init_14 : decode cX5_init 14 = .ok (.putfield 15, 3) := by decide +kernel
theorem dX5_init_17 : decode cX5_init 17 = .ok (.aload_n 0, 1) := by decide +kernel
theorem dX5_init_18 : decode cX5_init 18 = .ok (.iconst 0, 1) := by decide +kernel
theorem dX5_init_19 : decode cX5_init 19 = .ok (.putfield 19, 3) := by decide +kernel
theorem dX5_init_22 : decode cX5_init 22 = .ok (.aload_n 0, 1) := by decide +kernel
theorem dX5_init_23 : decode cX5_init 23 = .ok (.iconst 0, 1) := by decide +kernel
theorem dX5_init_24 : decode cX5_init 24 = .ok (.putfield 22, 3) := by decide +kernel
theorem dX5_init_27 : decode cX5_init 27 = .ok (.aload_n 0, 1) := by decide +kernel
theorem dX5_init_28 : decode cX5_init 28 = .ok (.iconst 0, 1) := by decide +kernel
theorem dX5_init_29 : decode cX5_init 29 = .ok (.putfield 25, 3) := by decide +kernel
theorem dX5_init_32 : decode cX5_init 32 = .ok (.return_, 1) := by decide +kernel
theorem dX5_hasRoomFor_0 : decode cX5_hasRoomFor 0 = .ok (.iload_n 1, 1) := by decide +kernel
theorem dX5_hasRoomFor_1 : decode cX5_hasRoomFor 1 = .ok (.bipush 14, 2) := by decide +kernel
theorem dX5_hasRoomFor_3 : decode cX5_hasRoomFor 3 = .ok (.aload_n 0, 1) := by decide +kernel
theorem dX5_hasRoomFor_4 : decode cX5_hasRoomFor 4 = .ok (.getfield 15, 3) := by decide +kernel
theorem dX5_hasRoomFor_7 : decode cX5_hasRoomFor 7 = .ok (.isub, 1) := by decide +kernel
theorem dX5_hasRoomFor_8 : decode cX5_hasRoomFor 8 = .ok (.if_icmp .gt 7, 3) := by decide +kernel
theorem dX5_hasRoomFor_11 : decode cX5_hasRoomFor 11 = .ok (.iconst 1, 1) := by decide +kernel
theorem dX5_hasRoomFor_12 : decode cX5_hasRoomFor 12 = .ok (.goto 4, 3) := by decide +kernel
theorem dX5_hasRoomFor_15 : decode cX5_hasRoomFor 15 = .ok (.iconst 0, 1) := by decide +kernel
theorem dX5_hasRoomFor_16 : decode cX5_hasRoomFor 16 = .ok (.ireturn, 1) := by decide +kernel
theorem dX5_empty_0 : decode cX5_empty 0 = .ok (.aload_n 0, 1) := by decide +kernel
theorem dX5_empty_1 : decode cX5_empty 1 = .ok (.iconst 0, 1) := by decide +kernel
theorem dX5_empty_2 : decode cX5_empty 2 = .ok (.putfield 15, 3) := by decide +kernel
theorem dX5_empty_5 : decode cX5_empty 5 = .ok (.return_, 1) := by decide +kernel
set_option maxRecDepth 20000 in
theorem dX5_append_0 : decode cX5_append 0 = .ok (.iconst 0, 1) := by decide +kernel
theorem dX5_append_1 : decode cX5_append 1 = .ok (.istore 4, 2) := by decide +kernel
theorem dX5_append_3 : decode cX5_append 3 = .ok (.iload 4, 2) := by decide +kernel
theorem dX5_append_5 : decode cX5_append 5 = .ok (.iload_n 1, 1) := by decide +kernel
theorem dX5_append_6 : decode cX5_append 6 = .ok (.if_icmp .ge 49, 3) := by decide +kernel
theorem dX5_append_9 : decode cX5_append 9 = .ok (.iload 4, 2) := by decide +kernel
theorem dX5_append_11 : decode cX5_append 11 = .ok (.bipush 8, 2) := by decide +kernel
theorem dX5_append_13 : decode cX5_append 13 = .ok (.if_icmp .ge 42, 3) := by decide +kernel
theorem dX5_append_16 : decode cX5_append 16 = .ok (.aload_n 0, 1) := by decide +kernel
theorem dX5_append_17 : decode cX5_append 17 = .ok (.getfield 9, 3) := by decide +kernel
theorem dX5_append_20 : decode cX5_append 20 = .ok (.aload_n 0, 1) := by decide +kernel
theorem dX5_append_21 : decode cX5_append 21 = .ok (.getfield 15, 3) := by decide +kernel
theorem dX5_append_24 : decode cX5_append 24 = .ok (.lload_n 2, 1) := by decide +kernel
theorem dX5_append_25 : decode cX5_append 25 = .ok (.bipush 8, 2) := by decide +kernel
theorem dX5_append_27 : decode cX5_append 27 = .ok (.iload 4, 2) := by decide +kernel
theorem dX5_append_29 : decode cX5_append 29 = .ok (.imul, 1) := by decide +kernel
theorem dX5_append_30 : decode cX5_append 30 = .ok (.lushr, 1) := by decide +kernel
theorem dX5_append_31 : decode cX5_append 31 = .ok (.l2i, 1) := by decide +kernel
theorem dX5_append_32 : decode cX5_append 32 = .ok (.sipush 255, 3) := by decide +kernel
theorem dX5_append_35 : decode cX5_append 35 = .ok (.iand, 1) := by decide +kernel
theorem dX5_append_36 : decode cX5_append 36 = .ok (.invokestatic 28, 3) := by decide +kernel
theorem dX5_append_39 : decode cX5_append 39 = .ok (.aload_n 0, 1) := by decide +kernel
theorem dX5_append_40 : decode cX5_append 40 = .ok (.dup, 1) := by decide +kernel
theorem dX5_append_41 : decode cX5_append 41 = .ok (.getfield 15, 3) := by decide +kernel
theorem dX5_append_44 : decode cX5_append 44 = .ok (.iconst 1, 1) := by decide +kernel
theorem dX5_append_45 : decode cX5_append 45 = .ok (.iadd, 1) := by decide +kernel
theorem dX5_append_46 : decode cX5_append 46 = .ok (.putfield 15, 3) := by decide +kernel
theorem dX5_append_49 : decode cX5_append 49 = .ok (.iinc 4 1, 3) := by decide +kernel
theorem dX5_append_52 : decode cX5_append 52 = .ok (.goto (-49), 3) := by decide +kernel
theorem dX5_append_55 : decode cX5_append 55 = .ok (.return_, 1) := by decide +kernel
set_option maxRecDepth 20000 in
theorem dX5_read_0 : decode cX5_read 0 = .ok (.aload_n 0, 1) := by decide +kernel
theorem dX5_read_1 : decode cX5_read 1 = .ok (.aload_n 0, 1) := by decide +kernel
theorem dX5_read_2 : decode cX5_read 2 = .ok (.iconst 0, 1) := by decide +kernel
theorem dX5_read_3 : decode cX5_read 3 = .ok (.invokevirtual 32, 3) := by decide +kernel
theorem dX5_read_6 : decode cX5_read 6 = .ok (.invokestatic 36, 3) := by decide +kernel
theorem dX5_read_9 : decode cX5_read 9 = .ok (.putfield 19, 3) := by decide +kernel
theorem dX5_read_12 : decode cX5_read 12 = .ok (.aload_n 0, 1) := by decide +kernel
theorem dX5_read_13 : decode cX5_read 13 = .ok (.getfield 19, 3) := by decide +kernel
theorem dX5_read_16 : decode cX5_read 16 = .ok (.ifCond .ge 5, 3) := by decide +kernel
theorem dX5_read_19 : decode cX5_read 19 = .ok (.iconst 0, 1) := by decide +kernel
theorem dX5_read_20 : decode cX5_read 20 = .ok (.ireturn, 1) := by decide +kernel
theorem dX5_read_21 : decode cX5_read 21 = .ok (.aload_n 0, 1) := by decide +kernel
theorem dX5_read_22 : decode cX5_read 22 = .ok (.iconst 1, 1) := by decide +kernel
theorem dX5_read_23 : decode cX5_read 23 = .ok (.iconst 3, 1) := by decide +kernel
theorem dX5_read_24 : decode cX5_read 24 = .ok (.invokevirtual 39, 3) := by decide +kernel
theorem dX5_read_27 : decode cX5_read 27 = .ok (.istore_n 1, 1) := by decide +kernel
theorem dX5_read_28 : decode cX5_read 28 = .ok (.aload_n 0, 1) := by decide +kernel
theorem dX5_read_29 : decode cX5_read 29 = .ok (.aload_n 0, 1) := by decide +kernel
theorem dX5_read_30 : decode cX5_read 30 = .ok (.iconst 1, 1) := by decide +kernel
theorem dX5_read_31 : decode cX5_read 31 = .ok (.iload_n 1, 1) := by decide +kernel
theorem dX5_read_32 : decode cX5_read 32 = .ok (.invokevirtual 43, 3) := by decide +kernel
theorem dX5_read_35 : decode cX5_read 35 = .ok (.putfield 22, 3) := by decide +kernel
theorem dX5_read_38 : decode cX5_read 38 = .ok (.iload_n 1, 1) := by decide +kernel
theorem dX5_read_39 : decode cX5_read 39 = .ok (.iconst 1, 1) := by decide +kernel
theorem dX5_read_40 : decode cX5_read 40 = .ok (.if_icmp .eq 13, 3) := by decide +kernel
theorem dX5_read_43 : decode cX5_read 43 = .ok (.aload_n 0, 1) := by decide +kernel
theorem dX5_read_44 : decode cX5_read 44 = .ok (.getfield 22, 3) := by decide +kernel
theorem dX5_read_47 : decode cX5_read 47 = .ok (.sipush 366, 3) := by decide +kernel
theorem dX5_read_50 : decode cX5_read 50 = .ok (.if_icmp .lt 5, 3) := by decide +kernel
theorem dX5_read_53 : decode cX5_read 53 = .ok (.iconst 1, 1) := by decide +kernel
theorem dX5_read_54 : decode cX5_read 54 = .ok (.ireturn, 1) := by decide +kernel
theorem dX5_read_55 : decode cX5_read 55 = .ok (.aload_n 0, 1) := by decide +kernel
theorem dX5_read_56 : decode cX5_read 56 = .ok (.iload_n 1, 1) := by decide +kernel
theorem dX5_read_57 : decode cX5_read 57 = .ok (.invokevirtual 32, 3) := by decide +kernel
theorem dX5_read_60 : decode cX5_read 60 = .ok (.bipush 44, 2) := by decide +kernel
theorem dX5_read_62 : decode cX5_read 62 = .ok (.if_icmp .eq 5, 3) := by decide +kernel
theorem dX5_read_65 : decode cX5_read 65 = .ok (.iload_n 1, 1) := by decide +kernel
theorem dX5_read_66 : decode cX5_read 66 = .ok (.ireturn, 1) := by decide +kernel
theorem dX5_read_67 : decode cX5_read 67 = .ok (.iload_n 1, 1) := by decide +kernel
theorem dX5_read_68 : decode cX5_read 68 = .ok (.iconst 1, 1) := by decide +kernel
theorem dX5_read_69 : decode cX5_read 69 = .ok (.iadd, 1) := by decide +kernel
theorem dX5_read_70 : decode cX5_read 70 = .ok (.istore_n 2, 1) := by decide +kernel
theorem dX5_read_71 : decode cX5_read 71 = .ok (.aload_n 0, 1) := by decide +kernel
theorem dX5_read_72 : decode cX5_read 72 = .ok (.iload_n 2, 1) := by decide +kernel
theorem dX5_read_73 : decode cX5_read 73 = .ok (.iconst 4, 1) := by decide +kernel
theorem dX5_read_74 : decode cX5_read 74 = .ok (.invokevirtual 39, 3) := by decide +kernel
theorem dX5_read_77 : decode cX5_read 77 = .ok (.istore_n 3, 1) := by decide +kernel
theorem dX5_read_78 : decode cX5_read 78 = .ok (.aload_n 0, 1) := by decide +kernel
theorem dX5_read_79 : decode cX5_read 79 = .ok (.aload_n 0, 1) := by decide +kernel
theorem dX5_read_80 : decode cX5_read 80 = .ok (.iload_n 2, 1) := by decide +kernel
theorem dX5_read_81 : decode cX5_read 81 = .ok (.iload_n 3, 1) := by decide +kernel
theorem dX5_read_82 : decode cX5_read 82 = .ok (.invokevirtual 43, 3) := by decide +kernel
theorem dX5_read_85 : decode cX5_read 85 = .ok (.putfield 25, 3) := by decide +kernel
theorem dX5_read_88 : decode cX5_read 88 = .ok (.iload_n 3, 1) := by decide +kernel
theorem dX5_read_89 : decode cX5_read 89 = .ok (.iload_n 2, 1) := by decide +kernel
theorem dX5_read_90 : decode cX5_read 90 = .ok (.if_icmp .le 15, 3) := by decide +kernel
theorem dX5_read_93 : decode cX5_read 93 = .ok (.iload_n 3, 1) := by decide +kernel
theorem dX5_read_94 : decode cX5_read 94 = .ok (.aload_n 0, 1) := by decide +kernel
theorem dX5_read_95 : decode cX5_read 95 = .ok (.getfield 15, 3) := by decide +kernel
theorem dX5_read_98 : decode cX5_read 98 = .ok (.if_icmp .ne 7, 3) := by decide +kernel
theorem dX5_read_101 : decode cX5_read 101 = .ok (.iconst (-1), 1) := by decide +kernel
theorem dX5_read_102 : decode cX5_read 102 = .ok (.goto 4, 3) := by decide +kernel
theorem dX5_read_105 : decode cX5_read 105 = .ok (.iload_n 3, 1) := by decide +kernel
theorem dX5_read_106 : decode cX5_read 106 = .ok (.ireturn, 1) := by decide +kernel
set_option maxRecDepth 20000 in
theorem dX5_byteAt_0 : decode cX5_byteAt 0 = .ok (.iload_n 1, 1) := by decide +kernel
theorem dX5_byteAt_1 : decode cX5_byteAt 1 = .ok (.ifCond .lt 22, 3) := by decide +kernel
theorem dX5_byteAt_4 : decode cX5_byteAt 4 = .ok (.iload_n 1, 1) := by decide +kernel
theorem dX5_byteAt_5 : decode cX5_byteAt 5 = .ok (.aload_n 0, 1) := by decide +kernel
theorem dX5_byteAt_6 : decode cX5_byteAt 6 = .ok (.getfield 15, 3) := by decide +kernel
theorem dX5_byteAt_9 : decode cX5_byteAt 9 = .ok (.if_icmp .ge 14, 3) := by decide +kernel
theorem dX5_byteAt_12 : decode cX5_byteAt 12 = .ok (.aload_n 0, 1) := by decide +kernel
theorem dX5_byteAt_13 : decode cX5_byteAt 13 = .ok (.getfield 9, 3) := by decide +kernel
theorem dX5_byteAt_16 : decode cX5_byteAt 16 = .ok (.iload_n 1, 1) := by decide +kernel
theorem dX5_byteAt_17 : decode cX5_byteAt 17 = .ok (.invokestatic 46, 3) := by decide +kernel
theorem dX5_byteAt_20 : decode cX5_byteAt 20 = .ok (.goto 4, 3) := by decide +kernel
theorem dX5_byteAt_23 : decode cX5_byteAt 23 = .ok (.iconst (-1), 1) := by decide +kernel
theorem dX5_byteAt_24 : decode cX5_byteAt 24 = .ok (.ireturn, 1) := by decide +kernel
set_option maxRecDepth 20000 in
theorem dX5_isDigit_0 : decode cX5_isDigit 0 = .ok (.aload_n 0, 1) := by decide +kernel
theorem dX5_isDigit_1 : decode cX5_isDigit 1 = .ok (.iload_n 1, 1) := by decide +kernel
theorem dX5_isDigit_2 : decode cX5_isDigit 2 = .ok (.invokevirtual 32, 3) := by decide +kernel
theorem dX5_isDigit_5 : decode cX5_isDigit 5 = .ok (.bipush 48, 2) := by decide +kernel
theorem dX5_isDigit_7 : decode cX5_isDigit 7 = .ok (.if_icmp .lt 17, 3) := by decide +kernel
theorem dX5_isDigit_10 : decode cX5_isDigit 10 = .ok (.aload_n 0, 1) := by decide +kernel
theorem dX5_isDigit_11 : decode cX5_isDigit 11 = .ok (.iload_n 1, 1) := by decide +kernel
theorem dX5_isDigit_12 : decode cX5_isDigit 12 = .ok (.invokevirtual 32, 3) := by decide +kernel
theorem dX5_isDigit_15 : decode cX5_isDigit 15 = .ok (.bipush 57, 2) := by decide +kernel
theorem dX5_isDigit_17 : decode cX5_isDigit 17 = .ok (.if_icmp .gt 7, 3) := by decide +kernel
theorem dX5_isDigit_20 : decode cX5_isDigit 20 = .ok (.iconst 1, 1) := by decide +kernel
theorem dX5_isDigit_21 : decode cX5_isDigit 21 = .ok (.goto 4, 3) := by decide +kernel
theorem dX5_isDigit_24 : decode cX5_isDigit 24 = .ok (.iconst 0, 1) := by decide +kernel
theorem dX5_isDigit_25 : decode cX5_isDigit 25 = .ok (.ireturn, 1) := by decide +kernel
set_option maxRecDepth 20000 in
theorem dX5_endOfDigits_0 : decode cX5_endOfDigits 0 = .ok (.iload_n 1, 1) := by decide +kernel
theorem dX5_endOfDigits_1 : decode cX5_endOfDigits 1 = .ok (.istore_n 3, 1) := by decide +kernel
theorem dX5_endOfDigits_2 : decode cX5_endOfDigits 2 = .ok (.iload_n 3, 1) := by decide +kernel
theorem dX5_endOfDigits_3 : decode cX5_endOfDigits 3 = .ok (.iload_n 1, 1) := by decide +kernel
theorem dX5_endOfDigits_4 : decode cX5_endOfDigits 4 = .ok (.iload_n 2, 1) := by decide +kernel
theorem dX5_endOfDigits_5 : decode cX5_endOfDigits 5 = .ok (.iadd, 1) := by decide +kernel
theorem dX5_endOfDigits_6 : decode cX5_endOfDigits 6 = .ok (.if_icmp .ge 17, 3) := by decide +kernel
theorem dX5_endOfDigits_9 : decode cX5_endOfDigits 9 = .ok (.aload_n 0, 1) := by decide +kernel
theorem dX5_endOfDigits_10 : decode cX5_endOfDigits 10 = .ok (.iload_n 3, 1) := by decide +kernel
theorem dX5_endOfDigits_11 : decode cX5_endOfDigits 11 = .ok (.invokevirtual 50, 3) := by decide +kernel
theorem dX5_endOfDigits_14 : decode cX5_endOfDigits 14 = .ok (.ifCond .eq 9, 3) := by decide +kernel
theorem dX5_endOfDigits_17 : decode cX5_endOfDigits 17 = .ok (.iinc 3 1, 3) := by decide +kernel
theorem dX5_endOfDigits_20 : decode cX5_endOfDigits 20 = .ok (.goto (-18), 3) := by decide +kernel
theorem dX5_endOfDigits_23 : decode cX5_endOfDigits 23 = .ok (.iload_n 3, 1) := by decide +kernel
theorem dX5_endOfDigits_24 : decode cX5_endOfDigits 24 = .ok (.ireturn, 1) := by decide +kernel
set_option maxRecDepth 20000 in
theorem dX5_valueOf_0 : decode cX5_valueOf 0 = .ok (.iconst 0, 1) := by decide +kernel
theorem dX5_valueOf_1 : decode cX5_valueOf 1 = .ok (.istore_n 3, 1) := by decide +kernel
theorem dX5_valueOf_2 : decode cX5_valueOf 2 = .ok (.iload_n 1, 1) := by decide +kernel
theorem dX5_valueOf_3 : decode cX5_valueOf 3 = .ok (.istore 4, 2) := by decide +kernel
theorem dX5_valueOf_5 : decode cX5_valueOf 5 = .ok (.iload 4, 2) := by decide +kernel
theorem dX5_valueOf_7 : decode cX5_valueOf 7 = .ok (.iload_n 2, 1) := by decide +kernel
theorem dX5_valueOf_8 : decode cX5_valueOf 8 = .ok (.if_icmp .ge 24, 3) := by decide +kernel
theorem dX5_valueOf_11 : decode cX5_valueOf 11 = .ok (.bipush 10, 2) := by decide +kernel
theorem dX5_valueOf_13 : decode cX5_valueOf 13 = .ok (.iload_n 3, 1) := by decide +kernel
theorem dX5_valueOf_14 : decode cX5_valueOf 14 = .ok (.imul, 1) := by decide +kernel
theorem dX5_valueOf_15 : decode cX5_valueOf 15 = .ok (.aload_n 0, 1) := by decide +kernel
theorem dX5_valueOf_16 : decode cX5_valueOf 16 = .ok (.iload 4, 2) := by decide +kernel
theorem dX5_valueOf_18 : decode cX5_valueOf 18 = .ok (.invokevirtual 32, 3) := by decide +kernel
theorem dX5_valueOf_21 : decode cX5_valueOf 21 = .ok (.iadd, 1) := by decide +kernel
theorem dX5_valueOf_22 : decode cX5_valueOf 22 = .ok (.bipush 48, 2) := by decide +kernel
theorem dX5_valueOf_24 : decode cX5_valueOf 24 = .ok (.isub, 1) := by decide +kernel
theorem dX5_valueOf_25 : decode cX5_valueOf 25 = .ok (.istore_n 3, 1) := by decide +kernel
theorem dX5_valueOf_26 : decode cX5_valueOf 26 = .ok (.iinc 4 1, 3) := by decide +kernel
theorem dX5_valueOf_29 : decode cX5_valueOf 29 = .ok (.goto (-24), 3) := by decide +kernel
theorem dX5_valueOf_32 : decode cX5_valueOf 32 = .ok (.iload_n 3, 1) := by decide +kernel
theorem dX5_valueOf_33 : decode cX5_valueOf 33 = .ok (.ireturn, 1) := by decide +kernel
theorem dX5_kindOfLetter_0 : decode cX5_kindOfLetter 0 = .ok (.iload_n 0, 1) := by decide +kernel
theorem dX5_kindOfLetter_1 : decode cX5_kindOfLetter 1 = .ok (.tableswitch 103 97 115 #[93, 103, 99, 103, 103, 97, 103, 103, 103, 103, 103, 101, 103, 95, 103, 103, 103, 103, 91], 91) := by decide +kernel
theorem dX5_kindOfLetter_92 : decode cX5_kindOfLetter 92 = .ok (.iconst 0, 1) := by decide +kernel
theorem dX5_kindOfLetter_93 : decode cX5_kindOfLetter 93 = .ok (.ireturn, 1) := by decide +kernel
theorem dX5_kindOfLetter_94 : decode cX5_kindOfLetter 94 = .ok (.iconst 1, 1) := by decide +kernel
theorem dX5_kindOfLetter_95 : decode cX5_kindOfLetter 95 = .ok (.ireturn, 1) := by decide +kernel
theorem dX5_kindOfLetter_96 : decode cX5_kindOfLetter 96 = .ok (.iconst 2, 1) := by decide +kernel
theorem dX5_kindOfLetter_97 : decode cX5_kindOfLetter 97 = .ok (.ireturn, 1) := by decide +kernel
theorem dX5_kindOfLetter_98 : decode cX5_kindOfLetter 98 = .ok (.iconst 3, 1) := by decide +kernel
theorem dX5_kindOfLetter_99 : decode cX5_kindOfLetter 99 = .ok (.ireturn, 1) := by decide +kernel
theorem dX5_kindOfLetter_100 : decode cX5_kindOfLetter 100 = .ok (.iconst 4, 1) := by decide +kernel
theorem dX5_kindOfLetter_101 : decode cX5_kindOfLetter 101 = .ok (.ireturn, 1) := by decide +kernel
theorem dX5_kindOfLetter_102 : decode cX5_kindOfLetter 102 = .ok (.iconst 5, 1) := by decide +kernel
theorem dX5_kindOfLetter_103 : decode cX5_kindOfLetter 103 = .ok (.ireturn, 1) := by decide +kernel
theorem dX5_kindOfLetter_104 : decode cX5_kindOfLetter 104 = .ok (.iconst (-1), 1) := by decide +kernel
theorem dX5_kindOfLetter_105 : decode cX5_kindOfLetter 105 = .ok (.ireturn, 1) := by decide +kernel
set_option maxRecDepth 20000 in
theorem dX6_init_0 : decode cX6_init 0 = .ok (.aload_n 0, 1) := by decide +kernel
theorem dX6_init_1 : decode cX6_init 1 = .ok (.invokespecial 1, 3) := by decide +kernel
theorem dX6_init_4 : decode cX6_init 4 = .ok (.aload_n 0, 1) := by decide +kernel
theorem dX6_init_5 : decode cX6_init 5 = .ok (.new 7, 3) := by decide +kernel
theorem dX6_init_8 : decode cX6_init 8 = .ok (.dup, 1) := by decide +kernel
theorem dX6_init_9 : decode cX6_init 9 = .ok (.invokespecial 9, 3) := by decide +kernel
theorem dX6_init_12 : decode cX6_init 12 = .ok (.putfield 10, 3) := by decide +kernel
theorem dX6_init_15 : decode cX6_init 15 = .ok (.aload_n 0, 1) := by decide +kernel
theorem dX6_init_16 : decode cX6_init 16 = .ok (.new 16, 3) := by decide +kernel
theorem dX6_init_19 : decode cX6_init 19 = .ok (.dup, 1) := by decide +kernel
theorem dX6_init_20 : decode cX6_init 20 = .ok (.invokespecial 18, 3) := by decide +kernel
theorem dX6_init_23 : decode cX6_init 23 = .ok (.putfield 19, 3) := by decide +kernel
theorem dX6_init_26 : decode cX6_init 26 = .ok (.aload_n 0, 1) := by decide +kernel
theorem dX6_init_27 : decode cX6_init 27 = .ok (.new 16, 3) := by decide +kernel
theorem dX6_init_30 : decode cX6_init 30 = .ok (.dup, 1) := by decide +kernel
theorem dX6_init_31 : decode cX6_init 31 = .ok (.invokespecial 18, 3) := by decide +kernel
theorem dX6_init_34 : decode cX6_init 34 = .ok (.putfield 23, 3) := by decide +kernel
theorem dX6_init_37 : decode cX6_init 37 = .ok (.aload_n 0, 1) := by decide +kernel
theorem dX6_init_38 : decode cX6_init 38 = .ok (.iconst 0, 1) := by decide +kernel
theorem dX6_init_39 : decode cX6_init 39 = .ok (.putfield 26, 3) := by decide +kernel
theorem dX6_init_42 : decode cX6_init 42 = .ok (.aload_n 0, 1) := by decide +kernel
theorem dX6_init_43 : decode cX6_init 43 = .ok (.bipush 7, 2) := by decide +kernel
theorem dX6_init_45 : decode cX6_init 45 = .ok (.newarray .int, 2) := by decide +kernel
theorem dX6_init_47 : decode cX6_init 47 = .ok (.putfield 30, 3) := by decide +kernel
theorem dX6_init_50 : decode cX6_init 50 = .ok (.aload_n 0, 1) := by decide +kernel
theorem dX6_init_51 : decode cX6_init 51 = .ok (.new 34, 3) := by decide +kernel
theorem dX6_init_54 : decode cX6_init 54 = .ok (.dup, 1) := by decide +kernel
theorem dX6_init_55 : decode cX6_init 55 = .ok (.invokespecial 36, 3) := by decide +kernel
theorem dX6_init_58 : decode cX6_init 58 = .ok (.putfield 37, 3) := by decide +kernel
theorem dX6_init_61 : decode cX6_init 61 = .ok (.return_, 1) := by decide +kernel
set_option maxRecDepth 20000 in
theorem dX6_feed_0 : decode cX6_feed 0 = .ok (.iconst 0, 1) := by decide +kernel
theorem dX6_feed_1 : decode cX6_feed 1 = .ok (.iconst 0, 1) := by decide +kernel
theorem dX6_feed_2 : decode cX6_feed 2 = .ok (.iload_n 1, 1) := by decide +kernel
theorem dX6_feed_3 : decode cX6_feed 3 = .ok (.iconst 1, 1) := by decide +kernel
theorem dX6_feed_4 : decode cX6_feed 4 = .ok (.if_icmp .ge 7, 3) := by decide +kernel
theorem dX6_feed_7 : decode cX6_feed 7 = .ok (.iconst 1, 1) := by decide +kernel
theorem dX6_feed_8 : decode cX6_feed 8 = .ok (.goto 4, 3) := by decide +kernel
theorem dX6_feed_11 : decode cX6_feed 11 = .ok (.iconst 0, 1) := by decide +kernel
theorem dX6_feed_12 : decode cX6_feed 12 = .ok (.iload_n 1, 1) := by decide +kernel
theorem dX6_feed_13 : decode cX6_feed 13 = .ok (.bipush 8, 2) := by decide +kernel
theorem dX6_feed_15 : decode cX6_feed 15 = .ok (.if_icmp .gt 14, 3) := by decide +kernel
theorem dX6_feed_18 : decode cX6_feed 18 = .ok (.aload_n 0, 1) := by decide +kernel
theorem dX6_feed_19 : decode cX6_feed 19 = .ok (.getfield 10, 3) := by decide +kernel
theorem dX6_feed_22 : decode cX6_feed 22 = .ok (.iload_n 1, 1) := by decide +kernel
theorem dX6_feed_23 : decode cX6_feed 23 = .ok (.invokevirtual 41, 3) := by decide +kernel
theorem dX6_feed_26 : decode cX6_feed 26 = .ok (.ifCond .ne 7, 3) := by decide +kernel
theorem dX6_feed_29 : decode cX6_feed 29 = .ok (.iconst 1, 1) := by decide +kernel
theorem dX6_feed_30 : decode cX6_feed 30 = .ok (.goto 4, 3) := by decide +kernel
theorem dX6_feed_33 : decode cX6_feed 33 = .ok (.iconst 0, 1) := by decide +kernel
theorem dX6_feed_34 : decode cX6_feed 34 = .ok (.invokestatic 45, 3) := by decide +kernel
theorem dX6_feed_37 : decode cX6_feed 37 = .ok (.istore 4, 2) := by decide +kernel
theorem dX6_feed_39 : decode cX6_feed 39 = .ok (.iload 4, 2) := by decide +kernel
theorem dX6_feed_41 : decode cX6_feed 41 = .ok (.ifCond .eq 10, 3) := by decide +kernel
theorem dX6_feed_44 : decode cX6_feed 44 = .ok (.aload_n 0, 1) := by decide +kernel
theorem dX6_feed_45 : decode cX6_feed 45 = .ok (.iload 4, 2) := by decide +kernel
theorem dX6_feed_47 : decode cX6_feed 47 = .ok (.invokevirtual 49, 3) := by decide +kernel
theorem dX6_feed_50 : decode cX6_feed 50 = .ok (.ireturn, 1) := by decide +kernel
theorem dX6_feed_51 : decode cX6_feed 51 = .ok (.aload_n 0, 1) := by decide +kernel
theorem dX6_feed_52 : decode cX6_feed 52 = .ok (.getfield 10, 3) := by decide +kernel
theorem dX6_feed_55 : decode cX6_feed 55 = .ok (.iload_n 1, 1) := by decide +kernel
theorem dX6_feed_56 : decode cX6_feed 56 = .ok (.lload_n 2, 1) := by decide +kernel
theorem dX6_feed_57 : decode cX6_feed 57 = .ok (.invokevirtual 53, 3) := by decide +kernel
theorem dX6_feed_60 : decode cX6_feed 60 = .ok (.aload_n 0, 1) := by decide +kernel
theorem dX6_feed_61 : decode cX6_feed 61 = .ok (.getfield 10, 3) := by decide +kernel
theorem dX6_feed_64 : decode cX6_feed 64 = .ok (.getfield 57, 3) := by decide +kernel
theorem dX6_feed_67 : decode cX6_feed 67 = .ok (.ireturn, 1) := by decide +kernel
set_option maxRecDepth 20000 in
theorem dX6_man_0 : decode cX6_man 0 = .ok (.aload_n 0, 1) := by decide +kernel
theorem dX6_man_1 : decode cX6_man 1 = .ok (.getfield 19, 3) := by decide +kernel
theorem dX6_man_4 : decode cX6_man 4 = .ok (.getfield 61, 3) := by decide +kernel
theorem dX6_man_7 : decode cX6_man 7 = .ok (.getfield 65, 3) := by decide +kernel
theorem dX6_man_10 : decode cX6_man 10 = .ok (.bipush 60, 2) := by decide +kernel
theorem dX6_man_12 : decode cX6_man 12 = .ok (.if_icmp .lt 10, 3) := by decide +kernel
theorem dX6_man_15 : decode cX6_man 15 = .ok (.aload_n 0, 1) := by decide +kernel
theorem dX6_man_16 : decode cX6_man 16 = .ok (.bipush (-6), 2) := by decide +kernel
theorem dX6_man_18 : decode cX6_man 18 = .ok (.invokevirtual 49, 3) := by decide +kernel
theorem dX6_man_21 : decode cX6_man 21 = .ok (.ireturn, 1) := by decide +kernel
theorem dX6_man_22 : decode cX6_man 22 = .ok (.aload_n 0, 1) := by decide +kernel
theorem dX6_man_23 : decode cX6_man 23 = .ok (.getfield 10, 3) := by decide +kernel
theorem dX6_man_26 : decode cX6_man 26 = .ok (.invokevirtual 70, 3) := by decide +kernel
theorem dX6_man_29 : decode cX6_man 29 = .ok (.istore_n 1, 1) := by decide +kernel
theorem dX6_man_30 : decode cX6_man 30 = .ok (.aload_n 0, 1) := by decide +kernel
theorem dX6_man_31 : decode cX6_man 31 = .ok (.getfield 10, 3) := by decide +kernel
theorem dX6_man_34 : decode cX6_man 34 = .ok (.invokevirtual 74, 3) := by decide +kernel
theorem dX6_man_37 : decode cX6_man 37 = .ok (.iload_n 1, 1) := by decide +kernel
theorem dX6_man_38 : decode cX6_man 38 = .ok (.ifCond .lt 8, 3) := by decide +kernel
theorem dX6_man_41 : decode cX6_man 41 = .ok (.bipush (-20), 2) := by decide +kernel
theorem dX6_man_43 : decode cX6_man 43 = .ok (.iload_n 1, 1) := by decide +kernel
theorem dX6_man_44 : decode cX6_man 44 = .ok (.isub, 1) := by decide +kernel
theorem dX6_man_45 : decode cX6_man 45 = .ok (.ireturn, 1) := by decide +kernel
theorem dX6_man_46 : decode cX6_man 46 = .ok (.aload_n 0, 1) := by decide +kernel
theorem dX6_man_47 : decode cX6_man 47 = .ok (.getfield 19, 3) := by decide +kernel
theorem dX6_man_50 : decode cX6_man 50 = .ok (.getfield 61, 3) := by decide +kernel
theorem dX6_man_53 : decode cX6_man 53 = .ok (.aload_n 0, 1) := by decide +kernel
theorem dX6_man_54 : decode cX6_man 54 = .ok (.getfield 10, 3) := by decide +kernel
theorem dX6_man_57 : decode cX6_man 57 = .ok (.getfield 77, 3) := by decide +kernel
theorem dX6_man_60 : decode cX6_man 60 = .ok (.aload_n 0, 1) := by decide +kernel
theorem dX6_man_61 : decode cX6_man 61 = .ok (.getfield 10, 3) := by decide +kernel
theorem dX6_man_64 : decode cX6_man 64 = .ok (.getfield 80, 3) := by decide +kernel
theorem dX6_man_67 : decode cX6_man 67 = .ok (.aload_n 0, 1) := by decide +kernel
theorem dX6_man_68 : decode cX6_man 68 = .ok (.getfield 10, 3) := by decide +kernel
theorem dX6_man_71 : decode cX6_man 71 = .ok (.getfield 83, 3) := by decide +kernel
theorem dX6_man_74 : decode cX6_man 74 = .ok (.invokevirtual 86, 3) := by decide +kernel
theorem dX6_man_77 : decode cX6_man 77 = .ok (.ireturn, 1) := by decide +kernel
set_option maxRecDepth 20000 in
theorem dX6_jar_0 : decode cX6_jar 0 = .ok (.iload_n 1, 1) := by decide +kernel
theorem dX6_jar_1 : decode cX6_jar 1 = .ok (.invokestatic 90, 3) := by decide +kernel
theorem dX6_jar_4 : decode cX6_jar 4 = .ok (.ifCond .ne 7, 3) := by decide +kernel
theorem dX6_jar_7 : decode cX6_jar 7 = .ok (.iconst 1, 1) := by decide +kernel
theorem dX6_jar_8 : decode cX6_jar 8 = .ok (.goto 4, 3) := by decide +kernel
theorem dX6_jar_11 : decode cX6_jar 11 = .ok (.iconst 0, 1) := by decide +kernel
theorem dX6_jar_12 : decode cX6_jar 12 = .ok (.iconst 0, 1) := by decide +kernel
theorem dX6_jar_13 : decode cX6_jar 13 = .ok (.iload_n 3, 1) := by decide +kernel
theorem dX6_jar_14 : decode cX6_jar 14 = .ok (.ifCond .lt 14, 3) := by decide +kernel
theorem dX6_jar_17 : decode cX6_jar 17 = .ok (.iload 4, 2) := by decide +kernel
theorem dX6_jar_19 : decode cX6_jar 19 = .ok (.ifCond .lt 9, 3) := by decide +kernel
theorem dX6_jar_22 : decode cX6_jar 22 = .ok (.iload 5, 2) := by decide +kernel
theorem dX6_jar_24 : decode cX6_jar 24 = .ok (.iconst 1, 1) := by decide +kernel
theorem dX6_jar_25 : decode cX6_jar 25 = .ok (.if_icmp .ge 7, 3) := by decide +kernel
theorem dX6_jar_28 : decode cX6_jar 28 = .ok (.iconst 1, 1) := by decide +kernel
theorem dX6_jar_29 : decode cX6_jar 29 = .ok (.goto 4, 3) := by decide +kernel
theorem dX6_jar_32 : decode cX6_jar 32 = .ok (.iconst 0, 1) := by decide +kernel
theorem dX6_jar_33 : decode cX6_jar 33 = .ok (.iload_n 3, 1) := by decide +kernel
theorem dX6_jar_34 : decode cX6_jar 34 = .ok (.sipush 2000, 3) := by decide +kernel
theorem dX6_jar_37 : decode cX6_jar 37 = .ok (.if_icmp .gt 19, 3) := by decide +kernel
theorem dX6_jar_40 : decode cX6_jar 40 = .ok (.iload 4, 2) := by decide +kernel
theorem dX6_jar_42 : decode cX6_jar 42 = .ok (.sipush 365, 3) := by decide +kernel
theorem dX6_jar_45 : decode cX6_jar 45 = .ok (.if_icmp .gt 11, 3) := by decide +kernel
theorem dX6_jar_48 : decode cX6_jar 48 = .ok (.iload 5, 2) := by decide +kernel
theorem dX6_jar_50 : decode cX6_jar 50 = .ok (.sipush 366, 3) := by decide +kernel
theorem dX6_jar_53 : decode cX6_jar 53 = .ok (.if_icmp .le 7, 3) := by decide +kernel
theorem dX6_jar_56 : decode cX6_jar 56 = .ok (.iconst 1, 1) := by decide +kernel
theorem dX6_jar_57 : decode cX6_jar 57 = .ok (.goto 4, 3) := by decide +kernel
theorem dX6_jar_60 : decode cX6_jar 60 = .ok (.iconst 0, 1) := by decide +kernel
theorem dX6_jar_61 : decode cX6_jar 61 = .ok (.invokestatic 45, 3) := by decide +kernel
theorem dX6_jar_64 : decode cX6_jar 64 = .ok (.istore 6, 2) := by decide +kernel
theorem dX6_jar_66 : decode cX6_jar 66 = .ok (.iload 6, 2) := by decide +kernel
theorem dX6_jar_68 : decode cX6_jar 68 = .ok (.ifCond .eq 10, 3) := by decide +kernel
theorem dX6_jar_71 : decode cX6_jar 71 = .ok (.aload_n 0, 1) := by decide +kernel
theorem dX6_jar_72 : decode cX6_jar 72 = .ok (.iload 6, 2) := by decide +kernel
theorem dX6_jar_74 : decode cX6_jar 74 = .ok (.invokevirtual 49, 3) := by decide +kernel
theorem dX6_jar_77 : decode cX6_jar 77 = .ok (.ireturn, 1) := by decide +kernel
theorem dX6_jar_78 : decode cX6_jar 78 = .ok (.aload_n 0, 1) := by decide +kernel
theorem dX6_jar_79 : decode cX6_jar 79 = .ok (.getfield 19, 3) := by decide +kernel
theorem dX6_jar_82 : decode cX6_jar 82 = .ok (.iload_n 1, 1) := by decide +kernel
theorem dX6_jar_83 : decode cX6_jar 83 = .ok (.invokevirtual 93, 3) := by decide +kernel
theorem dX6_jar_86 : decode cX6_jar 86 = .ok (.iload_n 2, 1) := by decide +kernel
theorem dX6_jar_87 : decode cX6_jar 87 = .ok (.iload_n 3, 1) := by decide +kernel
theorem dX6_jar_88 : decode cX6_jar 88 = .ok (.iload 4, 2) := by decide +kernel
theorem dX6_jar_90 : decode cX6_jar 90 = .ok (.iload 5, 2) := by decide +kernel
theorem dX6_jar_92 : decode cX6_jar 92 = .ok (.invokevirtual 97, 3) := by decide +kernel
theorem dX6_jar_95 : decode cX6_jar 95 = .ok (.iconst 1, 1) := by decide +kernel
theorem dX6_jar_96 : decode cX6_jar 96 = .ok (.ireturn, 1) := by decide +kernel
set_option maxRecDepth 20000 in
theorem dX6_pour_0 : decode cX6_pour 0 = .ok (.iload_n 1, 1) := by decide +kernel
theorem dX6_pour_1 : decode cX6_pour 1 = .ok (.invokestatic 90, 3) := by decide +kernel
theorem dX6_pour_4 : decode cX6_pour 4 = .ok (.ifCond .ne 9, 3) := by decide +kernel
theorem dX6_pour_7 : decode cX6_pour 7 = .ok (.aload_n 0, 1) := by decide +kernel
theorem dX6_pour_8 : decode cX6_pour 8 = .ok (.iconst (-1), 1) := by decide +kernel
theorem dX6_pour_9 : decode cX6_pour 9 = .ok (.invokevirtual 49, 3) := by decide +kernel
theorem dX6_pour_12 : decode cX6_pour 12 = .ok (.ireturn, 1) := by decide +kernel
theorem dX6_pour_13 : decode cX6_pour 13 = .ok (.aload_n 0, 1) := by decide +kernel
theorem dX6_pour_14 : decode cX6_pour 14 = .ok (.getfield 19, 3) := by decide +kernel
theorem dX6_pour_17 : decode cX6_pour 17 = .ok (.iload_n 1, 1) := by decide +kernel
theorem dX6_pour_18 : decode cX6_pour 18 = .ok (.invokevirtual 93, 3) := by decide +kernel
theorem dX6_pour_21 : decode cX6_pour 21 = .ok (.iload_n 2, 1) := by decide +kernel
theorem dX6_pour_22 : decode cX6_pour 22 = .ok (.invokevirtual 103, 3) := by decide +kernel
theorem dX6_pour_25 : decode cX6_pour 25 = .ok (.ifCond .eq 7, 3) := by decide +kernel
theorem dX6_pour_28 : decode cX6_pour 28 = .ok (.iconst 1, 1) := by decide +kernel
theorem dX6_pour_29 : decode cX6_pour 29 = .ok (.goto 4, 3) := by decide +kernel
theorem dX6_pour_32 : decode cX6_pour 32 = .ok (.iconst 0, 1) := by decide +kernel
theorem dX6_pour_33 : decode cX6_pour 33 = .ok (.ireturn, 1) := by decide +kernel
set_option maxRecDepth 20000 in
theorem dX6_number_0 : decode cX6_number 0 = .ok (.iload_n 1, 1) := by decide +kernel
theorem dX6_number_1 : decode cX6_number 1 = .ok (.invokestatic 90, 3) := by decide +kernel
theorem dX6_number_4 : decode cX6_number 4 = .ok (.ifCond .eq 14, 3) := by decide +kernel
theorem dX6_number_7 : decode cX6_number 7 = .ok (.iload_n 2, 1) := by decide +kernel
theorem dX6_number_8 : decode cX6_number 8 = .ok (.ifCond .lt 10, 3) := by decide +kernel
theorem dX6_number_11 : decode cX6_number 11 = .ok (.iload_n 2, 1) := by decide +kernel
theorem dX6_number_12 : decode cX6_number 12 = .ok (.sipush 366, 3) := by decide +kernel
theorem dX6_number_15 : decode cX6_number 15 = .ok (.if_icmp .lt 9, 3) := by decide +kernel
theorem dX6_number_18 : decode cX6_number 18 = .ok (.aload_n 0, 1) := by decide +kernel
theorem dX6_number_19 : decode cX6_number 19 = .ok (.iconst (-1), 1) := by decide +kernel
theorem dX6_number_20 : decode cX6_number 20 = .ok (.invokevirtual 49, 3) := by decide +kernel
theorem dX6_number_23 : decode cX6_number 23 = .ok (.ireturn, 1) := by decide +kernel
theorem dX6_number_24 : decode cX6_number 24 = .ok (.aload_n 0, 1) := by decide +kernel
theorem dX6_number_25 : decode cX6_number 25 = .ok (.getfield 19, 3) := by decide +kernel
theorem dX6_number_28 : decode cX6_number 28 = .ok (.iload_n 1, 1) := by decide +kernel
theorem dX6_number_29 : decode cX6_number 29 = .ok (.invokevirtual 93, 3) := by decide +kernel
theorem dX6_number_32 : decode cX6_number 32 = .ok (.iload_n 2, 1) := by decide +kernel
theorem dX6_number_33 : decode cX6_number 33 = .ok (.invokevirtual 107, 3) := by decide +kernel
theorem dX6_number_36 : decode cX6_number 36 = .ok (.ireturn, 1) := by decide +kernel
set_option maxRecDepth 20000 in
theorem dX6_dayOf_0 : decode cX6_dayOf 0 = .ok (.iload_n 1, 1) := by decide +kernel
theorem dX6_dayOf_1 : decode cX6_dayOf 1 = .ok (.invokestatic 90, 3) := by decide +kernel
theorem dX6_dayOf_4 : decode cX6_dayOf 4 = .ok (.ifCond .ne 7, 3) := by decide +kernel
theorem dX6_dayOf_7 : decode cX6_dayOf 7 = .ok (.iconst 1, 1) := by decide +kernel
theorem dX6_dayOf_8 : decode cX6_dayOf 8 = .ok (.goto 4, 3) := by decide +kernel
theorem dX6_dayOf_11 : decode cX6_dayOf 11 = .ok (.iconst 0, 1) := by decide +kernel
theorem dX6_dayOf_12 : decode cX6_dayOf 12 = .ok (.iconst 0, 1) := by decide +kernel
theorem dX6_dayOf_13 : decode cX6_dayOf 13 = .ok (.iload_n 2, 1) := by decide +kernel
theorem dX6_dayOf_14 : decode cX6_dayOf 14 = .ok (.iconst 1, 1) := by decide +kernel
theorem dX6_dayOf_15 : decode cX6_dayOf 15 = .ok (.if_icmp .ge 7, 3) := by decide +kernel
theorem dX6_dayOf_18 : decode cX6_dayOf 18 = .ok (.iconst 1, 1) := by decide +kernel
theorem dX6_dayOf_19 : decode cX6_dayOf 19 = .ok (.goto 4, 3) := by decide +kernel
theorem dX6_dayOf_22 : decode cX6_dayOf 22 = .ok (.iconst 0, 1) := by decide +kernel
theorem dX6_dayOf_23 : decode cX6_dayOf 23 = .ok (.iload_n 2, 1) := by decide +kernel
theorem dX6_dayOf_24 : decode cX6_dayOf 24 = .ok (.sipush 366, 3) := by decide +kernel
theorem dX6_dayOf_27 : decode cX6_dayOf 27 = .ok (.if_icmp .le 7, 3) := by decide +kernel
theorem dX6_dayOf_30 : decode cX6_dayOf 30 = .ok (.iconst 1, 1) := by decide +kernel
theorem dX6_dayOf_31 : decode cX6_dayOf 31 = .ok (.goto 4, 3) := by decide +kernel
theorem dX6_dayOf_34 : decode cX6_dayOf 34 = .ok (.iconst 0, 1) := by decide +kernel
theorem dX6_dayOf_35 : decode cX6_dayOf 35 = .ok (.invokestatic 45, 3) := by decide +kernel
theorem dX6_dayOf_38 : decode cX6_dayOf 38 = .ok (.istore_n 3, 1) := by decide +kernel
theorem dX6_dayOf_39 : decode cX6_dayOf 39 = .ok (.iload_n 3, 1) := by decide +kernel
theorem dX6_dayOf_40 : decode cX6_dayOf 40 = .ok (.ifCond .eq 9, 3) := by decide +kernel
theorem dX6_dayOf_43 : decode cX6_dayOf 43 = .ok (.aload_n 0, 1) := by decide +kernel
theorem dX6_dayOf_44 : decode cX6_dayOf 44 = .ok (.iload_n 3, 1) := by decide +kernel
theorem dX6_dayOf_45 : decode cX6_dayOf 45 = .ok (.invokevirtual 49, 3) := by decide +kernel
theorem dX6_dayOf_48 : decode cX6_dayOf 48 = .ok (.ireturn, 1) := by decide +kernel
theorem dX6_dayOf_49 : decode cX6_dayOf 49 = .ok (.aload_n 0, 1) := by decide +kernel
theorem dX6_dayOf_50 : decode cX6_dayOf 50 = .ok (.getfield 19, 3) := by decide +kernel
theorem dX6_dayOf_53 : decode cX6_dayOf 53 = .ok (.iload_n 1, 1) := by decide +kernel
theorem dX6_dayOf_54 : decode cX6_dayOf 54 = .ok (.invokevirtual 93, 3) := by decide +kernel
theorem dX6_dayOf_57 : decode cX6_dayOf 57 = .ok (.iload_n 2, 1) := by decide +kernel
theorem dX6_dayOf_58 : decode cX6_dayOf 58 = .ok (.invokevirtual 110, 3) := by decide +kernel
theorem dX6_dayOf_61 : decode cX6_dayOf 61 = .ok (.ireturn, 1) := by decide +kernel
set_option maxRecDepth 20000 in
theorem dX6_mean_0 : decode cX6_mean 0 = .ok (.iload_n 1, 1) := by decide +kernel
theorem dX6_mean_1 : decode cX6_mean 1 = .ok (.invokestatic 90, 3) := by decide +kernel
theorem dX6_mean_4 : decode cX6_mean 4 = .ok (.ifCond .eq 10, 3) := by decide +kernel
theorem dX6_mean_7 : decode cX6_mean 7 = .ok (.iload_n 2, 1) := by decide +kernel
theorem dX6_mean_8 : decode cX6_mean 8 = .ok (.invokestatic 113, 3) := by decide +kernel
theorem dX6_mean_11 : decode cX6_mean 11 = .ok (.ifCond .ne 7, 3) := by decide +kernel
theorem dX6_mean_14 : decode cX6_mean 14 = .ok (.iconst 1, 1) := by decide +kernel
theorem dX6_mean_15 : decode cX6_mean 15 = .ok (.goto 4, 3) := by decide +kernel
theorem dX6_mean_18 : decode cX6_mean 18 = .ok (.iconst 0, 1) := by decide +kernel
theorem dX6_mean_19 : decode cX6_mean 19 = .ok (.iload_n 3, 1) := by decide +kernel
theorem dX6_mean_20 : decode cX6_mean 20 = .ok (.invokestatic 116, 3) := by decide +kernel
theorem dX6_mean_23 : decode cX6_mean 23 = .ok (.ifCond .ne 7, 3) := by decide +kernel
theorem dX6_mean_26 : decode cX6_mean 26 = .ok (.iconst 1, 1) := by decide +kernel
theorem dX6_mean_27 : decode cX6_mean 27 = .ok (.goto 4, 3) := by decide +kernel
theorem dX6_mean_30 : decode cX6_mean 30 = .ok (.iconst 0, 1) := by decide +kernel
theorem dX6_mean_31 : decode cX6_mean 31 = .ok (.iconst 0, 1) := by decide +kernel
theorem dX6_mean_32 : decode cX6_mean 32 = .ok (.iconst 0, 1) := by decide +kernel
theorem dX6_mean_33 : decode cX6_mean 33 = .ok (.invokestatic 45, 3) := by decide +kernel
theorem dX6_mean_36 : decode cX6_mean 36 = .ok (.istore 4, 2) := by decide +kernel
theorem dX6_mean_38 : decode cX6_mean 38 = .ok (.iload 4, 2) := by decide +kernel
theorem dX6_mean_40 : decode cX6_mean 40 = .ok (.ifCond .eq 10, 3) := by decide +kernel
theorem dX6_mean_43 : decode cX6_mean 43 = .ok (.aload_n 0, 1) := by decide +kernel
theorem dX6_mean_44 : decode cX6_mean 44 = .ok (.iload 4, 2) := by decide +kernel
theorem dX6_mean_46 : decode cX6_mean 46 = .ok (.invokevirtual 119, 3) := by decide +kernel
theorem dX6_mean_49 : decode cX6_mean 49 = .ok (.lreturn, 1) := by decide +kernel
theorem dX6_mean_50 : decode cX6_mean 50 = .ok (.aload_n 0, 1) := by decide +kernel
theorem dX6_mean_51 : decode cX6_mean 51 = .ok (.getfield 37, 3) := by decide +kernel
theorem dX6_mean_54 : decode cX6_mean 54 = .ok (.aload_n 0, 1) := by decide +kernel
theorem dX6_mean_55 : decode cX6_mean 55 = .ok (.getfield 19, 3) := by decide +kernel
theorem dX6_mean_58 : decode cX6_mean 58 = .ok (.iload_n 1, 1) := by decide +kernel
theorem dX6_mean_59 : decode cX6_mean 59 = .ok (.invokevirtual 93, 3) := by decide +kernel
theorem dX6_mean_62 : decode cX6_mean 62 = .ok (.iload_n 2, 1) := by decide +kernel
theorem dX6_mean_63 : decode cX6_mean 63 = .ok (.invokevirtual 123, 3) := by decide +kernel
theorem dX6_mean_66 : decode cX6_mean 66 = .ok (.i2l, 1) := by decide +kernel
theorem dX6_mean_67 : decode cX6_mean 67 = .ok (.iload_n 2, 1) := by decide +kernel
theorem dX6_mean_68 : decode cX6_mean 68 = .ok (.invokestatic 126, 3) := by decide +kernel
theorem dX6_mean_71 : decode cX6_mean 71 = .ok (.i2l, 1) := by decide +kernel
theorem dX6_mean_72 : decode cX6_mean 72 = .ok (.invokevirtual 129, 3) := by decide +kernel
theorem dX6_mean_75 : decode cX6_mean 75 = .ok (.aload_n 0, 1) := by decide +kernel
theorem dX6_mean_76 : decode cX6_mean 76 = .ok (.getfield 37, 3) := by decide +kernel
theorem dX6_mean_79 : decode cX6_mean 79 = .ok (.iload_n 3, 1) := by decide +kernel
theorem dX6_mean_80 : decode cX6_mean 80 = .ok (.invokevirtual 133, 3) := by decide +kernel
theorem dX6_mean_83 : decode cX6_mean 83 = .ok (.lreturn, 1) := by decide +kernel
set_option maxRecDepth 20000 in
theorem dX6_lean_0 : decode cX6_lean 0 = .ok (.iload_n 1, 1) := by decide +kernel
theorem dX6_lean_1 : decode cX6_lean 1 = .ok (.invokestatic 90, 3) := by decide +kernel
theorem dX6_lean_4 : decode cX6_lean 4 = .ok (.ifCond .ne 9, 3) := by decide +kernel
theorem dX6_lean_7 : decode cX6_lean 7 = .ok (.aload_n 0, 1) := by decide +kernel
theorem dX6_lean_8 : decode cX6_lean 8 = .ok (.iconst (-1), 1) := by decide +kernel
theorem dX6_lean_9 : decode cX6_lean 9 = .ok (.invokevirtual 119, 3) := by decide +kernel
theorem dX6_lean_12 : decode cX6_lean 12 = .ok (.lreturn, 1) := by decide +kernel
theorem dX6_lean_13 : decode cX6_lean 13 = .ok (.aload_n 0, 1) := by decide +kernel
theorem dX6_lean_14 : decode cX6_lean 14 = .ok (.getfield 19, 3) := by decide +kernel
theorem dX6_lean_17 : decode cX6_lean 17 = .ok (.iload_n 1, 1) := by decide +kernel
theorem dX6_lean_18 : decode cX6_lean 18 = .ok (.invokevirtual 93, 3) := by decide +kernel
theorem dX6_lean_21 : decode cX6_lean 21 = .ok (.invokevirtual 136, 3) := by decide +kernel
theorem dX6_lean_24 : decode cX6_lean 24 = .ok (.lreturn, 1) := by decide +kernel
set_option maxRecDepth 20000 in
theorem dX6_worst_0 : decode cX6_worst 0 = .ok (.iload_n 1, 1) := by decide +kernel
theorem dX6_worst_1 : decode cX6_worst 1 = .ok (.invokestatic 90, 3) := by decide +kernel
theorem dX6_worst_4 : decode cX6_worst 4 = .ok (.ifCond .ne 9, 3) := by decide +kernel
theorem dX6_worst_7 : decode cX6_worst 7 = .ok (.aload_n 0, 1) := by decide +kernel
theorem dX6_worst_8 : decode cX6_worst 8 = .ok (.iconst (-1), 1) := by decide +kernel
theorem dX6_worst_9 : decode cX6_worst 9 = .ok (.invokevirtual 49, 3) := by decide +kernel
theorem dX6_worst_12 : decode cX6_worst 12 = .ok (.ireturn, 1) := by decide +kernel
theorem dX6_worst_13 : decode cX6_worst 13 = .ok (.aload_n 0, 1) := by decide +kernel
theorem dX6_worst_14 : decode cX6_worst 14 = .ok (.getfield 19, 3) := by decide +kernel
theorem dX6_worst_17 : decode cX6_worst 17 = .ok (.iload_n 1, 1) := by decide +kernel
theorem dX6_worst_18 : decode cX6_worst 18 = .ok (.invokevirtual 93, 3) := by decide +kernel
theorem dX6_worst_21 : decode cX6_worst 21 = .ok (.invokevirtual 140, 3) := by decide +kernel
theorem dX6_worst_24 : decode cX6_worst 24 = .ok (.ireturn, 1) := by decide +kernel
set_option maxRecDepth 20000 in
theorem dX6_turned_0 : decode cX6_turned 0 = .ok (.iload_n 1, 1) := by decide +kernel
theorem dX6_turned_1 : decode cX6_turned 1 = .ok (.invokestatic 90, 3) := by decide +kernel
theorem dX6_turned_4 : decode cX6_turned 4 = .ok (.ifCond .ne 9, 3) := by decide +kernel
theorem dX6_turned_7 : decode cX6_turned 7 = .ok (.aload_n 0, 1) := by decide +kernel
theorem dX6_turned_8 : decode cX6_turned 8 = .ok (.iconst (-1), 1) := by decide +kernel
theorem dX6_turned_9 : decode cX6_turned 9 = .ok (.invokevirtual 49, 3) := by decide +kernel
theorem dX6_turned_12 : decode cX6_turned 12 = .ok (.ireturn, 1) := by decide +kernel
theorem dX6_turned_13 : decode cX6_turned 13 = .ok (.aload_n 0, 1) := by decide +kernel
theorem dX6_turned_14 : decode cX6_turned 14 = .ok (.getfield 19, 3) := by decide +kernel
theorem dX6_turned_17 : decode cX6_turned 17 = .ok (.iload_n 1, 1) := by decide +kernel
theorem dX6_turned_18 : decode cX6_turned 18 = .ok (.invokevirtual 93, 3) := by decide +kernel
theorem dX6_turned_21 : decode cX6_turned 21 = .ok (.invokevirtual 143, 3) := by decide +kernel
theorem dX6_turned_24 : decode cX6_turned 24 = .ok (.ireturn, 1) := by decide +kernel
set_option maxRecDepth 20000 in
theorem dX6_manOf_0 : decode cX6_manOf 0 = .ok (.aload_n 0, 1) := by decide +kernel
theorem dX6_manOf_1 : decode cX6_manOf 1 = .ok (.iload_n 1, 1) := by decide +kernel
theorem dX6_manOf_2 : decode cX6_manOf 2 = .ok (.invokevirtual 146, 3) := by decide +kernel
theorem dX6_manOf_5 : decode cX6_manOf 5 = .ok (.ifCond .ne 7, 3) := by decide +kernel
theorem dX6_manOf_8 : decode cX6_manOf 8 = .ok (.iconst 1, 1) := by decide +kernel
theorem dX6_manOf_9 : decode cX6_manOf 9 = .ok (.goto 4, 3) := by decide +kernel
theorem dX6_manOf_12 : decode cX6_manOf 12 = .ok (.iconst 0, 1) := by decide +kernel
theorem dX6_manOf_13 : decode cX6_manOf 13 = .ok (.iload_n 2, 1) := by decide +kernel
theorem dX6_manOf_14 : decode cX6_manOf 14 = .ok (.ifCond .lt 8, 3) := by decide +kernel
theorem dX6_manOf_17 : decode cX6_manOf 17 = .ok (.iload_n 2, 1) := by decide +kernel
theorem dX6_manOf_18 : decode cX6_manOf 18 = .ok (.iconst 2, 1) := by decide +kernel
theorem dX6_manOf_19 : decode cX6_manOf 19 = .ok (.if_icmp .le 7, 3) := by decide +kernel
theorem dX6_manOf_22 : decode cX6_manOf 22 = .ok (.iconst 1, 1) := by decide +kernel
theorem dX6_manOf_23 : decode cX6_manOf 23 = .ok (.goto 4, 3) := by decide +kernel
theorem dX6_manOf_26 : decode cX6_manOf 26 = .ok (.iconst 0, 1) := by decide +kernel
theorem dX6_manOf_27 : decode cX6_manOf 27 = .ok (.iconst 0, 1) := by decide +kernel
theorem dX6_manOf_28 : decode cX6_manOf 28 = .ok (.iconst 0, 1) := by decide +kernel
theorem dX6_manOf_29 : decode cX6_manOf 29 = .ok (.invokestatic 45, 3) := by decide +kernel
theorem dX6_manOf_32 : decode cX6_manOf 32 = .ok (.istore_n 3, 1) := by decide +kernel
theorem dX6_manOf_33 : decode cX6_manOf 33 = .ok (.iload_n 3, 1) := by decide +kernel
theorem dX6_manOf_34 : decode cX6_manOf 34 = .ok (.ifCond .eq 9, 3) := by decide +kernel
theorem dX6_manOf_37 : decode cX6_manOf 37 = .ok (.aload_n 0, 1) := by decide +kernel
theorem dX6_manOf_38 : decode cX6_manOf 38 = .ok (.iload_n 3, 1) := by decide +kernel
theorem dX6_manOf_39 : decode cX6_manOf 39 = .ok (.invokevirtual 49, 3) := by decide +kernel
theorem dX6_manOf_42 : decode cX6_manOf 42 = .ok (.ireturn, 1) := by decide +kernel
theorem dX6_manOf_43 : decode cX6_manOf 43 = .ok (.iload_n 2, 1) := by decide +kernel
theorem dX6_manOf_44 : decode cX6_manOf 44 = .ok (.ifCond .ne 15, 3) := by decide +kernel
theorem dX6_manOf_47 : decode cX6_manOf 47 = .ok (.aload_n 0, 1) := by decide +kernel
theorem dX6_manOf_48 : decode cX6_manOf 48 = .ok (.getfield 19, 3) := by decide +kernel
theorem dX6_manOf_51 : decode cX6_manOf 51 = .ok (.getfield 61, 3) := by decide +kernel
theorem dX6_manOf_54 : decode cX6_manOf 54 = .ok (.iload_n 1, 1) := by decide +kernel
theorem dX6_manOf_55 : decode cX6_manOf 55 = .ok (.invokevirtual 149, 3) := by decide +kernel
theorem dX6_manOf_58 : decode cX6_manOf 58 = .ok (.ireturn, 1) := by decide +kernel
theorem dX6_manOf_59 : decode cX6_manOf 59 = .ok (.iload_n 2, 1) := by decide +kernel
theorem dX6_manOf_60 : decode cX6_manOf 60 = .ok (.iconst 1, 1) := by decide +kernel
theorem dX6_manOf_61 : decode cX6_manOf 61 = .ok (.if_icmp .ne 17, 3) := by decide +kernel
theorem dX6_manOf_64 : decode cX6_manOf 64 = .ok (.aload_n 0, 1) := by decide +kernel
theorem dX6_manOf_65 : decode cX6_manOf 65 = .ok (.getfield 19, 3) := by decide +kernel
theorem dX6_manOf_68 : decode cX6_manOf 68 = .ok (.getfield 61, 3) := by decide +kernel
theorem dX6_manOf_71 : decode cX6_manOf 71 = .ok (.iload_n 1, 1) := by decide +kernel
theorem dX6_manOf_72 : decode cX6_manOf 72 = .ok (.invokevirtual 152, 3) := by decide +kernel
theorem dX6_manOf_75 : decode cX6_manOf 75 = .ok (.goto 14, 3) := by decide +kernel
theorem dX6_manOf_78 : decode cX6_manOf 78 = .ok (.aload_n 0, 1) := by decide +kernel
theorem dX6_manOf_79 : decode cX6_manOf 79 = .ok (.getfield 19, 3) := by decide +kernel
theorem dX6_manOf_82 : decode cX6_manOf 82 = .ok (.getfield 61, 3) := by decide +kernel
theorem dX6_manOf_85 : decode cX6_manOf 85 = .ok (.iload_n 1, 1) := by decide +kernel
theorem dX6_manOf_86 : decode cX6_manOf 86 = .ok (.invokevirtual 155, 3) := by decide +kernel
theorem dX6_manOf_89 : decode cX6_manOf 89 = .ok (.ireturn, 1) := by decide +kernel
set_option maxRecDepth 20000 in
theorem dX6_cut_0 : decode cX6_cut 0 = .ok (.iconst 0, 1) := by decide +kernel
theorem dX6_cut_1 : decode cX6_cut 1 = .ok (.iconst 0, 1) := by decide +kernel
theorem dX6_cut_2 : decode cX6_cut 2 = .ok (.iload_n 1, 1) := by decide +kernel
theorem dX6_cut_3 : decode cX6_cut 3 = .ok (.ifCond .ge 7, 3) := by decide +kernel
theorem dX6_cut_6 : decode cX6_cut 6 = .ok (.iconst 1, 1) := by decide +kernel
theorem dX6_cut_7 : decode cX6_cut 7 = .ok (.goto 4, 3) := by decide +kernel
theorem dX6_cut_10 : decode cX6_cut 10 = .ok (.iconst 0, 1) := by decide +kernel
theorem dX6_cut_11 : decode cX6_cut 11 = .ok (.iload_n 1, 1) := by decide +kernel
theorem dX6_cut_12 : decode cX6_cut 12 = .ok (.sipush 366, 3) := by decide +kernel
theorem dX6_cut_15 : decode cX6_cut 15 = .ok (.if_icmp .le 7, 3) := by decide +kernel
theorem dX6_cut_18 : decode cX6_cut 18 = .ok (.iconst 1, 1) := by decide +kernel
theorem dX6_cut_19 : decode cX6_cut 19 = .ok (.goto 4, 3) := by decide +kernel
theorem dX6_cut_22 : decode cX6_cut 22 = .ok (.iconst 0, 1) := by decide +kernel
theorem dX6_cut_23 : decode cX6_cut 23 = .ok (.invokestatic 45, 3) := by decide +kernel
theorem dX6_cut_26 : decode cX6_cut 26 = .ok (.istore_n 2, 1) := by decide +kernel
theorem dX6_cut_27 : decode cX6_cut 27 = .ok (.iload_n 2, 1) := by decide +kernel
theorem dX6_cut_28 : decode cX6_cut 28 = .ok (.ifCond .eq 9, 3) := by decide +kernel
theorem dX6_cut_31 : decode cX6_cut 31 = .ok (.aload_n 0, 1) := by decide +kernel
theorem dX6_cut_32 : decode cX6_cut 32 = .ok (.iload_n 2, 1) := by decide +kernel
theorem dX6_cut_33 : decode cX6_cut 33 = .ok (.invokevirtual 49, 3) := by decide +kernel
theorem dX6_cut_36 : decode cX6_cut 36 = .ok (.ireturn, 1) := by decide +kernel
theorem dX6_cut_37 : decode cX6_cut 37 = .ok (.aload_n 0, 1) := by decide +kernel
theorem dX6_cut_38 : decode cX6_cut 38 = .ok (.getfield 19, 3) := by decide +kernel
theorem dX6_cut_41 : decode cX6_cut 41 = .ok (.getfield 158, 3) := by decide +kernel
theorem dX6_cut_44 : decode cX6_cut 44 = .ok (.istore_n 3, 1) := by decide +kernel
theorem dX6_cut_45 : decode cX6_cut 45 = .ok (.aload_n 0, 1) := by decide +kernel
theorem dX6_cut_46 : decode cX6_cut 46 = .ok (.getfield 19, 3) := by decide +kernel
theorem dX6_cut_49 : decode cX6_cut 49 = .ok (.iload_n 1, 1) := by decide +kernel
theorem dX6_cut_50 : decode cX6_cut 50 = .ok (.putfield 158, 3) := by decide +kernel
theorem dX6_cut_53 : decode cX6_cut 53 = .ok (.iload_n 3, 1) := by decide +kernel
theorem dX6_cut_54 : decode cX6_cut 54 = .ok (.ireturn, 1) := by decide +kernel
set_option maxRecDepth 20000 in
theorem dX6_law_0 : decode cX6_law 0 = .ok (.iload_n 1, 1) := by decide +kernel
theorem dX6_law_1 : decode cX6_law 1 = .ok (.ifCond .lt 15, 3) := by decide +kernel
theorem dX6_law_4 : decode cX6_law 4 = .ok (.iload_n 1, 1) := by decide +kernel
theorem dX6_law_5 : decode cX6_law 5 = .ok (.getstatic 161, 3) := by decide +kernel
theorem dX6_law_8 : decode cX6_law 8 = .ok (.arraylength, 1) := by decide +kernel
theorem dX6_law_9 : decode cX6_law 9 = .ok (.if_icmp .ge 7, 3) := by decide +kernel
theorem dX6_law_12 : decode cX6_law 12 = .ok (.iconst 1, 1) := by decide +kernel
theorem dX6_law_13 : decode cX6_law 13 = .ok (.goto 4, 3) := by decide +kernel
theorem dX6_law_16 : decode cX6_law 16 = .ok (.iconst 0, 1) := by decide +kernel
theorem dX6_law_17 : decode cX6_law 17 = .ok (.istore_n 3, 1) := by decide +kernel
theorem dX6_law_18 : decode cX6_law 18 = .ok (.iload_n 3, 1) := by decide +kernel
theorem dX6_law_19 : decode cX6_law 19 = .ok (.ifCond .ne 7, 3) := by decide +kernel
theorem dX6_law_22 : decode cX6_law 22 = .ok (.iconst 1, 1) := by decide +kernel
theorem dX6_law_23 : decode cX6_law 23 = .ok (.goto 4, 3) := by decide +kernel
theorem dX6_law_26 : decode cX6_law 26 = .ok (.iconst 0, 1) := by decide +kernel
theorem dX6_law_27 : decode cX6_law 27 = .ok (.iconst 0, 1) := by decide +kernel
theorem dX6_law_28 : decode cX6_law 28 = .ok (.iload_n 2, 1) := by decide +kernel
theorem dX6_law_29 : decode cX6_law 29 = .ok (.ifCond .ge 7, 3) := by decide +kernel
theorem dX6_law_32 : decode cX6_law 32 = .ok (.iconst 1, 1) := by decide +kernel
theorem dX6_law_33 : decode cX6_law 33 = .ok (.goto 4, 3) := by decide +kernel
theorem dX6_law_36 : decode cX6_law 36 = .ok (.iconst 0, 1) := by decide +kernel
theorem dX6_law_37 : decode cX6_law 37 = .ok (.iload_n 2, 1) := by decide +kernel
theorem dX6_law_38 : decode cX6_law 38 = .ok (.getstatic 161, 3) := by decide +kernel
theorem dX6_law_41 : decode cX6_law 41 = .ok (.iload_n 1, 1) := by decide +kernel
theorem dX6_law_42 : decode cX6_law 42 = .ok (.invokestatic 164, 3) := by decide +kernel
theorem dX6_law_45 : decode cX6_law 45 = .ok (.if_icmp .le 7, 3) := by decide +kernel
theorem dX6_law_48 : decode cX6_law 48 = .ok (.iconst 1, 1) := by decide +kernel
theorem dX6_law_49 : decode cX6_law 49 = .ok (.goto 4, 3) := by decide +kernel
theorem dX6_law_52 : decode cX6_law 52 = .ok (.iconst 0, 1) := by decide +kernel
theorem dX6_law_53 : decode cX6_law 53 = .ok (.invokestatic 45, 3) := by decide +kernel
theorem dX6_law_56 : decode cX6_law 56 = .ok (.istore 4, 2) := by decide +kernel
theorem dX6_law_58 : decode cX6_law 58 = .ok (.iload 4, 2) := by decide +kernel
theorem dX6_law_60 : decode cX6_law 60 = .ok (.ifCond .eq 10, 3) := by decide +kernel
theorem dX6_law_63 : decode cX6_law 63 = .ok (.aload_n 0, 1) := by decide +kernel
theorem dX6_law_64 : decode cX6_law 64 = .ok (.iload 4, 2) := by decide +kernel
theorem dX6_law_66 : decode cX6_law 66 = .ok (.invokevirtual 49, 3) := by decide +kernel
theorem dX6_law_69 : decode cX6_law 69 = .ok (.ireturn, 1) := by decide +kernel
theorem dX6_law_70 : decode cX6_law 70 = .ok (.aload_n 0, 1) := by decide +kernel
theorem dX6_law_71 : decode cX6_law 71 = .ok (.getfield 19, 3) := by decide +kernel
theorem dX6_law_74 : decode cX6_law 74 = .ok (.getfield 168, 3) := by decide +kernel
theorem dX6_law_77 : decode cX6_law 77 = .ok (.iload_n 1, 1) := by decide +kernel
theorem dX6_law_78 : decode cX6_law 78 = .ok (.invokestatic 164, 3) := by decide +kernel
theorem dX6_law_81 : decode cX6_law 81 = .ok (.istore 5, 2) := by decide +kernel
theorem dX6_law_83 : decode cX6_law 83 = .ok (.aload_n 0, 1) := by decide +kernel
theorem dX6_law_84 : decode cX6_law 84 = .ok (.getfield 19, 3) := by decide +kernel
theorem dX6_law_87 : decode cX6_law 87 = .ok (.getfield 168, 3) := by decide +kernel
theorem dX6_law_90 : decode cX6_law 90 = .ok (.iload_n 1, 1) := by decide +kernel
theorem dX6_law_91 : decode cX6_law 91 = .ok (.iload_n 2, 1) := by decide +kernel
theorem dX6_law_92 : decode cX6_law 92 = .ok (.invokestatic 171, 3) := by decide +kernel
theorem dX6_law_95 : decode cX6_law 95 = .ok (.iload 5, 2) := by decide +kernel
theorem dX6_law_97 : decode cX6_law 97 = .ok (.ireturn, 1) := by decide +kernel
set_option maxRecDepth 20000 in
theorem dX6_called_0 : decode cX6_called 0 = .ok (.iload_n 1, 1) := by decide +kernel
theorem dX6_called_1 : decode cX6_called 1 = .ok (.invokestatic 90, 3) := by decide +kernel
theorem dX6_called_4 : decode cX6_called 4 = .ok (.ifCond .eq 11, 3) := by decide +kernel
theorem dX6_called_7 : decode cX6_called 7 = .ok (.aload_n 0, 1) := by decide +kernel
theorem dX6_called_8 : decode cX6_called 8 = .ok (.iload_n 2, 1) := by decide +kernel
theorem dX6_called_9 : decode cX6_called 9 = .ok (.invokevirtual 146, 3) := by decide +kernel
theorem dX6_called_12 : decode cX6_called 12 = .ok (.ifCond .ne 9, 3) := by decide +kernel
theorem dX6_called_15 : decode cX6_called 15 = .ok (.aload_n 0, 1) := by decide +kernel
theorem dX6_called_16 : decode cX6_called 16 = .ok (.iconst (-1), 1) := by decide +kernel
theorem dX6_called_17 : decode cX6_called 17 = .ok (.invokevirtual 49, 3) := by decide +kernel
theorem dX6_called_20 : decode cX6_called 20 = .ok (.ireturn, 1) := by decide +kernel
theorem dX6_called_21 : decode cX6_called 21 = .ok (.aload_n 0, 1) := by decide +kernel
theorem dX6_called_22 : decode cX6_called 22 = .ok (.getfield 19, 3) := by decide +kernel
theorem dX6_called_25 : decode cX6_called 25 = .ok (.aload_n 0, 1) := by decide +kernel
theorem dX6_called_26 : decode cX6_called 26 = .ok (.getfield 19, 3) := by decide +kernel
theorem dX6_called_29 : decode cX6_called 29 = .ok (.iload_n 1, 1) := by decide +kernel
theorem dX6_called_30 : decode cX6_called 30 = .ok (.invokevirtual 93, 3) := by decide +kernel
theorem dX6_called_33 : decode cX6_called 33 = .ok (.iload_n 2, 1) := by decide +kernel
theorem dX6_called_34 : decode cX6_called 34 = .ok (.invokevirtual 175, 3) := by decide +kernel
theorem dX6_called_37 : decode cX6_called 37 = .ok (.ifCond .eq 7, 3) := by decide +kernel
theorem dX6_called_40 : decode cX6_called 40 = .ok (.iconst 1, 1) := by decide +kernel
theorem dX6_called_41 : decode cX6_called 41 = .ok (.goto 4, 3) := by decide +kernel
theorem dX6_called_44 : decode cX6_called 44 = .ok (.iconst 0, 1) := by decide +kernel
theorem dX6_called_45 : decode cX6_called 45 = .ok (.ireturn, 1) := by decide +kernel
set_option maxRecDepth 20000 in
theorem dX6_served_0 : decode cX6_served 0 = .ok (.iload_n 1, 1) := by decide +kernel
theorem dX6_served_1 : decode cX6_served 1 = .ok (.invokestatic 90, 3) := by decide +kernel
theorem dX6_served_4 : decode cX6_served 4 = .ok (.ifCond .eq 11, 3) := by decide +kernel
theorem dX6_served_7 : decode cX6_served 7 = .ok (.aload_n 0, 1) := by decide +kernel
theorem dX6_served_8 : decode cX6_served 8 = .ok (.iload_n 2, 1) := by decide +kernel
theorem dX6_served_9 : decode cX6_served 9 = .ok (.invokevirtual 146, 3) := by decide +kernel
theorem dX6_served_12 : decode cX6_served 12 = .ok (.ifCond .ne 9, 3) := by decide +kernel
theorem dX6_served_15 : decode cX6_served 15 = .ok (.aload_n 0, 1) := by decide +kernel
theorem dX6_served_16 : decode cX6_served 16 = .ok (.iconst (-1), 1) := by decide +kernel
theorem dX6_served_17 : decode cX6_served 17 = .ok (.invokevirtual 49, 3) := by decide +kernel
theorem dX6_served_20 : decode cX6_served 20 = .ok (.ireturn, 1) := by decide +kernel
theorem dX6_served_21 : decode cX6_served 21 = .ok (.aload_n 0, 1) := by decide +kernel
theorem dX6_served_22 : decode cX6_served 22 = .ok (.getfield 19, 3) := by decide +kernel
theorem dX6_served_25 : decode cX6_served 25 = .ok (.aload_n 0, 1) := by decide +kernel
theorem dX6_served_26 : decode cX6_served 26 = .ok (.getfield 19, 3) := by decide +kernel
theorem dX6_served_29 : decode cX6_served 29 = .ok (.iload_n 1, 1) := by decide +kernel
theorem dX6_served_30 : decode cX6_served 30 = .ok (.invokevirtual 93, 3) := by decide +kernel
theorem dX6_served_33 : decode cX6_served 33 = .ok (.iload_n 2, 1) := by decide +kernel
theorem dX6_served_34 : decode cX6_served 34 = .ok (.invokevirtual 179, 3) := by decide +kernel
theorem dX6_served_37 : decode cX6_served 37 = .ok (.ireturn, 1) := by decide +kernel
set_option maxRecDepth 20000 in
theorem dX6_wage_0 : decode cX6_wage 0 = .ok (.iload_n 1, 1) := by decide +kernel
theorem dX6_wage_1 : decode cX6_wage 1 = .ok (.invokestatic 90, 3) := by decide +kernel
theorem dX6_wage_4 : decode cX6_wage 4 = .ok (.ifCond .eq 11, 3) := by decide +kernel
theorem dX6_wage_7 : decode cX6_wage 7 = .ok (.aload_n 0, 1) := by decide +kernel
theorem dX6_wage_8 : decode cX6_wage 8 = .ok (.iload_n 2, 1) := by decide +kernel
theorem dX6_wage_9 : decode cX6_wage 9 = .ok (.invokevirtual 146, 3) := by decide +kernel
theorem dX6_wage_12 : decode cX6_wage 12 = .ok (.ifCond .ne 7, 3) := by decide +kernel
theorem dX6_wage_15 : decode cX6_wage 15 = .ok (.iconst 1, 1) := by decide +kernel
theorem dX6_wage_16 : decode cX6_wage 16 = .ok (.goto 4, 3) := by decide +kernel
end
section
theorem dX6_wage_19 : decode cX6_wage 19 = .ok (.iconst 0, 1) := by decide +kernel
theorem dX6_wage_20 : decode cX6_wage 20 = .ok (.iconst 0, 1) := by decide +kernel
theorem dX6_wage_21 : decode cX6_wage 21 = .ok (.iload_n 3, 1) := by decide +kernel
theorem dX6_wage_22 : decode cX6_wage 22 = .ok (.ifCond .ge 7, 3) := by decide +kernel
theorem dX6_wage_25 : decode cX6_wage 25 = .ok (.iconst 1, 1) := by decide +kernel
theorem dX6_wage_26 : decode cX6_wage 26 = .ok (.goto 4, 3) := by decide +kernel
theorem dX6_wage_29 : decode cX6_wage 29 = .ok (.iconst 0, 1) := by decide +kernel
theorem dX6_wage_30 : decode cX6_wage 30 = .ok (.iload_n 3, 1) := by decide +kernel
theorem dX6_wage_31 : decode cX6_wage 31 = .ok (.bipush 40, 2) := by decide +kernel
theorem dX6_wage_33 : decode cX6_wage 33 = .ok (.if_icmp .le 7, 3) := by decide +kernel
theorem dX6_wage_36 : decode cX6_wage 36 = .ok (.iconst 1, 1) := by decide +kernel
theorem dX6_wage_37 : decode cX6_wage 37 = .ok (.goto 4, 3) := by decide +kernel
theorem dX6_wage_40 : decode cX6_wage 40 = .ok (.iconst 0, 1) := by decide +kernel
theorem dX6_wage_41 : decode cX6_wage 41 = .ok (.invokestatic 45, 3) := by decide +kernel
theorem dX6_wage_44 : decode cX6_wage 44 = .ok (.istore 4, 2) := by decide +kernel
theorem dX6_wage_46 : decode cX6_wage 46 = .ok (.iload 4, 2) := by decide +kernel
theorem dX6_wage_48 : decode cX6_wage 48 = .ok (.ifCond .eq 10, 3) := by decide +kernel
theorem dX6_wage_51 : decode cX6_wage 51 = .ok (.aload_n 0, 1) := by decide +kernel
theorem dX6_wage_52 : decode cX6_wage 52 = .ok (.iload 4, 2) := by decide +kernel
theorem dX6_wage_54 : decode cX6_wage 54 = .ok (.invokevirtual 119, 3) := by decide +kernel
theorem dX6_wage_57 : decode cX6_wage 57 = .ok (.lreturn, 1) := by decide +kernel
theorem dX6_wage_58 : decode cX6_wage 58 = .ok (.aload_n 0, 1) := by decide +kernel
theorem dX6_wage_59 : decode cX6_wage 59 = .ok (.getfield 19, 3) := by decide +kernel
theorem dX6_wage_62 : decode cX6_wage 62 = .ok (.aload_n 0, 1) := by decide +kernel
theorem dX6_wage_63 : decode cX6_wage 63 = .ok (.getfield 19, 3) := by decide +kernel
theorem dX6_wage_66 : decode cX6_wage 66 = .ok (.iload_n 1, 1) := by decide +kernel
theorem dX6_wage_67 : decode cX6_wage 67 = .ok (.invokevirtual 93, 3) := by decide +kernel
theorem dX6_wage_70 : decode cX6_wage 70 = .ok (.iload_n 2, 1) := by decide +kernel
theorem dX6_wage_71 : decode cX6_wage 71 = .ok (.iload_n 3, 1) := by decide +kernel
theorem dX6_wage_72 : decode cX6_wage 72 = .ok (.invokevirtual 183, 3) := by decide +kernel
theorem dX6_wage_75 : decode cX6_wage 75 = .ok (.i2l, 1) := by decide +kernel
theorem dX6_wage_76 : decode cX6_wage 76 = .ok (.lreturn, 1) := by decide +kernel
set_option maxRecDepth 20000 in
theorem dX6_does_0 : decode cX6_does 0 = .ok (.iload_n 1, 1) := by decide +kernel
theorem dX6_does_1 : decode cX6_does 1 = .ok (.invokestatic 90, 3) := by decide +kernel
theorem dX6_does_4 : decode cX6_does 4 = .ok (.ifCond .ne 7, 3) := by decide +kernel
theorem dX6_does_7 : decode cX6_does 7 = .ok (.iconst 1, 1) := by decide +kernel
theorem dX6_does_8 : decode cX6_does 8 = .ok (.goto 4, 3) := by decide +kernel
theorem dX6_does_11 : decode cX6_does 11 = .ok (.iconst 0, 1) := by decide +kernel
theorem dX6_does_12 : decode cX6_does 12 = .ok (.iload_n 3, 1) := by decide +kernel
theorem dX6_does_13 : decode cX6_does 13 = .ok (.invokestatic 116, 3) := by decide +kernel
theorem dX6_does_16 : decode cX6_does 16 = .ok (.ifCond .ne 7, 3) := by decide +kernel
theorem dX6_does_19 : decode cX6_does 19 = .ok (.iconst 1, 1) := by decide +kernel
theorem dX6_does_20 : decode cX6_does 20 = .ok (.goto 4, 3) := by decide +kernel
theorem dX6_does_23 : decode cX6_does 23 = .ok (.iconst 0, 1) := by decide +kernel
theorem dX6_does_24 : decode cX6_does 24 = .ok (.iload_n 2, 1) := by decide +kernel
theorem dX6_does_25 : decode cX6_does 25 = .ok (.ifCond .ge 7, 3) := by decide +kernel
theorem dX6_does_28 : decode cX6_does 28 = .ok (.iconst 1, 1) := by decide +kernel
theorem dX6_does_29 : decode cX6_does 29 = .ok (.goto 4, 3) := by decide +kernel
theorem dX6_does_32 : decode cX6_does 32 = .ok (.iconst 0, 1) := by decide +kernel
theorem dX6_does_33 : decode cX6_does 33 = .ok (.iload_n 2, 1) := by decide +kernel
theorem dX6_does_34 : decode cX6_does 34 = .ok (.bipush 40, 2) := by decide +kernel
theorem dX6_does_36 : decode cX6_does 36 = .ok (.if_icmp .le 7, 3) := by decide +kernel
theorem dX6_does_39 : decode cX6_does 39 = .ok (.iconst 1, 1) := by decide +kernel
theorem dX6_does_40 : decode cX6_does 40 = .ok (.goto 4, 3) := by decide +kernel
theorem dX6_does_43 : decode cX6_does 43 = .ok (.iconst 0, 1) := by decide +kernel
theorem dX6_does_44 : decode cX6_does 44 = .ok (.invokestatic 45, 3) := by decide +kernel
theorem dX6_does_47 : decode cX6_does 47 = .ok (.istore 4, 2) := by decide +kernel
theorem dX6_does_49 : decode cX6_does 49 = .ok (.iload 4, 2) := by decide +kernel
theorem dX6_does_51 : decode cX6_does 51 = .ok (.ifCond .eq 10, 3) := by decide +kernel
theorem dX6_does_54 : decode cX6_does 54 = .ok (.aload_n 0, 1) := by decide +kernel
theorem dX6_does_55 : decode cX6_does 55 = .ok (.iload 4, 2) := by decide +kernel
theorem dX6_does_57 : decode cX6_does 57 = .ok (.invokevirtual 119, 3) := by decide +kernel
theorem dX6_does_60 : decode cX6_does 60 = .ok (.lreturn, 1) := by decide +kernel
theorem dX6_does_61 : decode cX6_does 61 = .ok (.aload_n 0, 1) := by decide +kernel
theorem dX6_does_62 : decode cX6_does 62 = .ok (.aload_n 0, 1) := by decide +kernel
theorem dX6_does_63 : decode cX6_does 63 = .ok (.getfield 19, 3) := by decide +kernel
theorem dX6_does_66 : decode cX6_does 66 = .ok (.aload_n 0, 1) := by decide +kernel
theorem dX6_does_67 : decode cX6_does 67 = .ok (.getfield 19, 3) := by decide +kernel
theorem dX6_does_70 : decode cX6_does 70 = .ok (.iload_n 1, 1) := by decide +kernel
theorem dX6_does_71 : decode cX6_does 71 = .ok (.invokevirtual 93, 3) := by decide +kernel
theorem dX6_does_74 : decode cX6_does 74 = .ok (.iload_n 2, 1) := by decide +kernel
theorem dX6_does_75 : decode cX6_does 75 = .ok (.aload_n 0, 1) := by decide +kernel
theorem dX6_does_76 : decode cX6_does 76 = .ok (.getfield 37, 3) := by decide +kernel
theorem dX6_does_79 : decode cX6_does 79 = .ok (.invokevirtual 187, 3) := by decide +kernel
theorem dX6_does_82 : decode cX6_does 82 = .ok (.iload_n 3, 1) := by decide +kernel
theorem dX6_does_83 : decode cX6_does 83 = .ok (.invokevirtual 191, 3) := by decide +kernel
theorem dX6_does_86 : decode cX6_does 86 = .ok (.lreturn, 1) := by decide +kernel
set_option maxRecDepth 20000 in
theorem dX6_share_0 : decode cX6_share 0 = .ok (.iload_n 1, 1) := by decide +kernel
theorem dX6_share_1 : decode cX6_share 1 = .ok (.invokestatic 90, 3) := by decide +kernel
theorem dX6_share_4 : decode cX6_share 4 = .ok (.ifCond .ne 7, 3) := by decide +kernel
theorem dX6_share_7 : decode cX6_share 7 = .ok (.iconst 1, 1) := by decide +kernel
theorem dX6_share_8 : decode cX6_share 8 = .ok (.goto 4, 3) := by decide +kernel
theorem dX6_share_11 : decode cX6_share 11 = .ok (.iconst 0, 1) := by decide +kernel
theorem dX6_share_12 : decode cX6_share 12 = .ok (.iload_n 2, 1) := by decide +kernel
theorem dX6_share_13 : decode cX6_share 13 = .ok (.invokestatic 116, 3) := by decide +kernel
theorem dX6_share_16 : decode cX6_share 16 = .ok (.ifCond .ne 7, 3) := by decide +kernel
theorem dX6_share_19 : decode cX6_share 19 = .ok (.iconst 1, 1) := by decide +kernel
theorem dX6_share_20 : decode cX6_share 20 = .ok (.goto 4, 3) := by decide +kernel
theorem dX6_share_23 : decode cX6_share 23 = .ok (.iconst 0, 1) := by decide +kernel
theorem dX6_share_24 : decode cX6_share 24 = .ok (.iconst 0, 1) := by decide +kernel
theorem dX6_share_25 : decode cX6_share 25 = .ok (.iconst 0, 1) := by decide +kernel
theorem dX6_share_26 : decode cX6_share 26 = .ok (.invokestatic 45, 3) := by decide +kernel
theorem dX6_share_29 : decode cX6_share 29 = .ok (.istore_n 3, 1) := by decide +kernel
theorem dX6_share_30 : decode cX6_share 30 = .ok (.iload_n 3, 1) := by decide +kernel
theorem dX6_share_31 : decode cX6_share 31 = .ok (.ifCond .eq 9, 3) := by decide +kernel
theorem dX6_share_34 : decode cX6_share 34 = .ok (.aload_n 0, 1) := by decide +kernel
theorem dX6_share_35 : decode cX6_share 35 = .ok (.iload_n 3, 1) := by decide +kernel
theorem dX6_share_36 : decode cX6_share 36 = .ok (.invokevirtual 119, 3) := by decide +kernel
theorem dX6_share_39 : decode cX6_share 39 = .ok (.lreturn, 1) := by decide +kernel
theorem dX6_share_40 : decode cX6_share 40 = .ok (.aload_n 0, 1) := by decide +kernel
theorem dX6_share_41 : decode cX6_share 41 = .ok (.aload_n 0, 1) := by decide +kernel
theorem dX6_share_42 : decode cX6_share 42 = .ok (.getfield 19, 3) := by decide +kernel
theorem dX6_share_45 : decode cX6_share 45 = .ok (.aload_n 0, 1) := by decide +kernel
theorem dX6_share_46 : decode cX6_share 46 = .ok (.getfield 19, 3) := by decide +kernel
theorem dX6_share_49 : decode cX6_share 49 = .ok (.iload_n 1, 1) := by decide +kernel
theorem dX6_share_50 : decode cX6_share 50 = .ok (.invokevirtual 93, 3) := by decide +kernel
theorem dX6_share_53 : decode cX6_share 53 = .ok (.aload_n 0, 1) := by decide +kernel
theorem dX6_share_54 : decode cX6_share 54 = .ok (.getfield 37, 3) := by decide +kernel
theorem dX6_share_57 : decode cX6_share 57 = .ok (.invokevirtual 195, 3) := by decide +kernel
theorem dX6_share_60 : decode cX6_share 60 = .ok (.iload_n 2, 1) := by decide +kernel
theorem dX6_share_61 : decode cX6_share 61 = .ok (.invokevirtual 191, 3) := by decide +kernel
theorem dX6_share_64 : decode cX6_share 64 = .ok (.lreturn, 1) := by decide +kernel
set_option maxRecDepth 20000 in
theorem dX6_serving_0 : decode cX6_serving 0 = .ok (.iload_n 1, 1) := by decide +kernel
theorem dX6_serving_1 : decode cX6_serving 1 = .ok (.invokestatic 90, 3) := by decide +kernel
theorem dX6_serving_4 : decode cX6_serving 4 = .ok (.ifCond .ne 7, 3) := by decide +kernel
theorem dX6_serving_7 : decode cX6_serving 7 = .ok (.iconst 1, 1) := by decide +kernel
theorem dX6_serving_8 : decode cX6_serving 8 = .ok (.goto 4, 3) := by decide +kernel
theorem dX6_serving_11 : decode cX6_serving 11 = .ok (.iconst 0, 1) := by decide +kernel
theorem dX6_serving_12 : decode cX6_serving 12 = .ok (.iload_n 3, 1) := by decide +kernel
theorem dX6_serving_13 : decode cX6_serving 13 = .ok (.invokestatic 116, 3) := by decide +kernel
theorem dX6_serving_16 : decode cX6_serving 16 = .ok (.ifCond .ne 7, 3) := by decide +kernel
theorem dX6_serving_19 : decode cX6_serving 19 = .ok (.iconst 1, 1) := by decide +kernel
theorem dX6_serving_20 : decode cX6_serving 20 = .ok (.goto 4, 3) := by decide +kernel
theorem dX6_serving_23 : decode cX6_serving 23 = .ok (.iconst 0, 1) := by decide +kernel
theorem dX6_serving_24 : decode cX6_serving 24 = .ok (.iload_n 2, 1) := by decide +kernel
theorem dX6_serving_25 : decode cX6_serving 25 = .ok (.ifCond .ge 7, 3) := by decide +kernel
theorem dX6_serving_28 : decode cX6_serving 28 = .ok (.iconst 1, 1) := by decide +kernel
theorem dX6_serving_29 : decode cX6_serving 29 = .ok (.goto 4, 3) := by decide +kernel
theorem dX6_serving_32 : decode cX6_serving 32 = .ok (.iconst 0, 1) := by decide +kernel
theorem dX6_serving_33 : decode cX6_serving 33 = .ok (.iload_n 2, 1) := by decide +kernel
theorem dX6_serving_34 : decode cX6_serving 34 = .ok (.bipush 40, 2) := by decide +kernel
theorem dX6_serving_36 : decode cX6_serving 36 = .ok (.if_icmp .le 7, 3) := by decide +kernel
theorem dX6_serving_39 : decode cX6_serving 39 = .ok (.iconst 1, 1) := by decide +kernel
theorem dX6_serving_40 : decode cX6_serving 40 = .ok (.goto 4, 3) := by decide +kernel
theorem dX6_serving_43 : decode cX6_serving 43 = .ok (.iconst 0, 1) := by decide +kernel
theorem dX6_serving_44 : decode cX6_serving 44 = .ok (.invokestatic 45, 3) := by decide +kernel
theorem dX6_serving_47 : decode cX6_serving 47 = .ok (.istore 4, 2) := by decide +kernel
theorem dX6_serving_49 : decode cX6_serving 49 = .ok (.iload 4, 2) := by decide +kernel
theorem dX6_serving_51 : decode cX6_serving 51 = .ok (.ifCond .eq 10, 3) := by decide +kernel
theorem dX6_serving_54 : decode cX6_serving 54 = .ok (.aload_n 0, 1) := by decide +kernel
theorem dX6_serving_55 : decode cX6_serving 55 = .ok (.iload 4, 2) := by decide +kernel
theorem dX6_serving_57 : decode cX6_serving 57 = .ok (.invokevirtual 119, 3) := by decide +kernel
theorem dX6_serving_60 : decode cX6_serving 60 = .ok (.lreturn, 1) := by decide +kernel
theorem dX6_serving_61 : decode cX6_serving 61 = .ok (.aload_n 0, 1) := by decide +kernel
theorem dX6_serving_62 : decode cX6_serving 62 = .ok (.aload_n 0, 1) := by decide +kernel
theorem dX6_serving_63 : decode cX6_serving 63 = .ok (.getfield 19, 3) := by decide +kernel
theorem dX6_serving_66 : decode cX6_serving 66 = .ok (.aload_n 0, 1) := by decide +kernel
theorem dX6_serving_67 : decode cX6_serving 67 = .ok (.getfield 19, 3) := by decide +kernel
theorem dX6_serving_70 : decode cX6_serving 70 = .ok (.iload_n 1, 1) := by decide +kernel
theorem dX6_serving_71 : decode cX6_serving 71 = .ok (.invokevirtual 93, 3) := by decide +kernel
theorem dX6_serving_74 : decode cX6_serving 74 = .ok (.iload_n 2, 1) := by decide +kernel
theorem dX6_serving_75 : decode cX6_serving 75 = .ok (.aload_n 0, 1) := by decide +kernel
theorem dX6_serving_76 : decode cX6_serving 76 = .ok (.getfield 37, 3) := by decide +kernel
theorem dX6_serving_79 : decode cX6_serving 79 = .ok (.invokevirtual 199, 3) := by decide +kernel
theorem dX6_serving_82 : decode cX6_serving 82 = .ok (.iload_n 3, 1) := by decide +kernel
theorem dX6_serving_83 : decode cX6_serving 83 = .ok (.invokevirtual 191, 3) := by decide +kernel
theorem dX6_serving_86 : decode cX6_serving 86 = .ok (.lreturn, 1) := by decide +kernel
set_option maxRecDepth 20000 in
theorem dX6_truly_0 : decode cX6_truly 0 = .ok (.iload_n 1, 1) := by decide +kernel
theorem dX6_truly_1 : decode cX6_truly 1 = .ok (.invokestatic 90, 3) := by decide +kernel
theorem dX6_truly_4 : decode cX6_truly 4 = .ok (.ifCond .ne 7, 3) := by decide +kernel
theorem dX6_truly_7 : decode cX6_truly 7 = .ok (.iconst 1, 1) := by decide +kernel
theorem dX6_truly_8 : decode cX6_truly 8 = .ok (.goto 4, 3) := by decide +kernel
theorem dX6_truly_11 : decode cX6_truly 11 = .ok (.iconst 0, 1) := by decide +kernel
theorem dX6_truly_12 : decode cX6_truly 12 = .ok (.iload_n 3, 1) := by decide +kernel
theorem dX6_truly_13 : decode cX6_truly 13 = .ok (.invokestatic 116, 3) := by decide +kernel
theorem dX6_truly_16 : decode cX6_truly 16 = .ok (.ifCond .ne 7, 3) := by decide +kernel
theorem dX6_truly_19 : decode cX6_truly 19 = .ok (.iconst 1, 1) := by decide +kernel
theorem dX6_truly_20 : decode cX6_truly 20 = .ok (.goto 4, 3) := by decide +kernel
theorem dX6_truly_23 : decode cX6_truly 23 = .ok (.iconst 0, 1) := by decide +kernel
theorem dX6_truly_24 : decode cX6_truly 24 = .ok (.iload_n 2, 1) := by decide +kernel
theorem dX6_truly_25 : decode cX6_truly 25 = .ok (.ifCond .ge 7, 3) := by decide +kernel
theorem dX6_truly_28 : decode cX6_truly 28 = .ok (.iconst 1, 1) := by decide +kernel
theorem dX6_truly_29 : decode cX6_truly 29 = .ok (.goto 4, 3) := by decide +kernel
theorem dX6_truly_32 : decode cX6_truly 32 = .ok (.iconst 0, 1) := by decide +kernel
theorem dX6_truly_33 : decode cX6_truly 33 = .ok (.iload_n 2, 1) := by decide +kernel
theorem dX6_truly_34 : decode cX6_truly 34 = .ok (.bipush 40, 2) := by decide +kernel
theorem dX6_truly_36 : decode cX6_truly 36 = .ok (.if_icmp .le 7, 3) := by decide +kernel
theorem dX6_truly_39 : decode cX6_truly 39 = .ok (.iconst 1, 1) := by decide +kernel
theorem dX6_truly_40 : decode cX6_truly 40 = .ok (.goto 4, 3) := by decide +kernel
theorem dX6_truly_43 : decode cX6_truly 43 = .ok (.iconst 0, 1) := by decide +kernel
theorem dX6_truly_44 : decode cX6_truly 44 = .ok (.invokestatic 45, 3) := by decide +kernel
theorem dX6_truly_47 : decode cX6_truly 47 = .ok (.istore 4, 2) := by decide +kernel
theorem dX6_truly_49 : decode cX6_truly 49 = .ok (.iload 4, 2) := by decide +kernel
theorem dX6_truly_51 : decode cX6_truly 51 = .ok (.ifCond .eq 10, 3) := by decide +kernel
theorem dX6_truly_54 : decode cX6_truly 54 = .ok (.aload_n 0, 1) := by decide +kernel
theorem dX6_truly_55 : decode cX6_truly 55 = .ok (.iload 4, 2) := by decide +kernel
theorem dX6_truly_57 : decode cX6_truly 57 = .ok (.invokevirtual 119, 3) := by decide +kernel
theorem dX6_truly_60 : decode cX6_truly 60 = .ok (.lreturn, 1) := by decide +kernel
theorem dX6_truly_61 : decode cX6_truly 61 = .ok (.aload_n 0, 1) := by decide +kernel
theorem dX6_truly_62 : decode cX6_truly 62 = .ok (.aload_n 0, 1) := by decide +kernel
theorem dX6_truly_63 : decode cX6_truly 63 = .ok (.getfield 19, 3) := by decide +kernel
theorem dX6_truly_66 : decode cX6_truly 66 = .ok (.aload_n 0, 1) := by decide +kernel
theorem dX6_truly_67 : decode cX6_truly 67 = .ok (.getfield 19, 3) := by decide +kernel
theorem dX6_truly_70 : decode cX6_truly 70 = .ok (.iload_n 1, 1) := by decide +kernel
theorem dX6_truly_71 : decode cX6_truly 71 = .ok (.invokevirtual 93, 3) := by decide +kernel
theorem dX6_truly_74 : decode cX6_truly 74 = .ok (.iload_n 2, 1) := by decide +kernel
theorem dX6_truly_75 : decode cX6_truly 75 = .ok (.aload_n 0, 1) := by decide +kernel
theorem dX6_truly_76 : decode cX6_truly 76 = .ok (.getfield 37, 3) := by decide +kernel
theorem dX6_truly_79 : decode cX6_truly 79 = .ok (.invokevirtual 202, 3) := by decide +kernel
theorem dX6_truly_82 : decode cX6_truly 82 = .ok (.iload_n 3, 1) := by decide +kernel
theorem dX6_truly_83 : decode cX6_truly 83 = .ok (.invokevirtual 191, 3) := by decide +kernel
theorem dX6_truly_86 : decode cX6_truly 86 = .ok (.lreturn, 1) := by decide +kernel
set_option maxRecDepth 20000 in
theorem dX6_faded_0 : decode cX6_faded 0 = .ok (.iload_n 1, 1) := by decide +kernel
theorem dX6_faded_1 : decode cX6_faded 1 = .ok (.invokestatic 90, 3) := by decide +kernel
theorem dX6_faded_4 : decode cX6_faded 4 = .ok (.ifCond .ne 7, 3) := by decide +kernel
theorem dX6_faded_7 : decode cX6_faded 7 = .ok (.iconst 1, 1) := by decide +kernel
theorem dX6_faded_8 : decode cX6_faded 8 = .ok (.goto 4, 3) := by decide +kernel
theorem dX6_faded_11 : decode cX6_faded 11 = .ok (.iconst 0, 1) := by decide +kernel
theorem dX6_faded_12 : decode cX6_faded 12 = .ok (.iconst 0, 1) := by decide +kernel
theorem dX6_faded_13 : decode cX6_faded 13 = .ok (.iload_n 2, 1) := by decide +kernel
theorem dX6_faded_14 : decode cX6_faded 14 = .ok (.ifCond .ge 7, 3) := by decide +kernel
theorem dX6_faded_17 : decode cX6_faded 17 = .ok (.iconst 1, 1) := by decide +kernel
theorem dX6_faded_18 : decode cX6_faded 18 = .ok (.goto 4, 3) := by decide +kernel
theorem dX6_faded_21 : decode cX6_faded 21 = .ok (.iconst 0, 1) := by decide +kernel
theorem dX6_faded_22 : decode cX6_faded 22 = .ok (.iload_n 2, 1) := by decide +kernel
theorem dX6_faded_23 : decode cX6_faded 23 = .ok (.sipush 9999, 3) := by decide +kernel
theorem dX6_faded_26 : decode cX6_faded 26 = .ok (.if_icmp .le 7, 3) := by decide +kernel
theorem dX6_faded_29 : decode cX6_faded 29 = .ok (.iconst 1, 1) := by decide +kernel
theorem dX6_faded_30 : decode cX6_faded 30 = .ok (.goto 4, 3) := by decide +kernel
theorem dX6_faded_33 : decode cX6_faded 33 = .ok (.iconst 0, 1) := by decide +kernel
theorem dX6_faded_34 : decode cX6_faded 34 = .ok (.invokestatic 45, 3) := by decide +kernel
theorem dX6_faded_37 : decode cX6_faded 37 = .ok (.istore_n 3, 1) := by decide +kernel
theorem dX6_faded_38 : decode cX6_faded 38 = .ok (.iload_n 3, 1) := by decide +kernel
theorem dX6_faded_39 : decode cX6_faded 39 = .ok (.ifCond .eq 9, 3) := by decide +kernel
theorem dX6_faded_42 : decode cX6_faded 42 = .ok (.aload_n 0, 1) := by decide +kernel
theorem dX6_faded_43 : decode cX6_faded 43 = .ok (.iload_n 3, 1) := by decide +kernel
theorem dX6_faded_44 : decode cX6_faded 44 = .ok (.invokevirtual 49, 3) := by decide +kernel
theorem dX6_faded_47 : decode cX6_faded 47 = .ok (.ireturn, 1) := by decide +kernel
theorem dX6_faded_48 : decode cX6_faded 48 = .ok (.iconst 0, 1) := by decide +kernel
theorem dX6_faded_49 : decode cX6_faded 49 = .ok (.istore 4, 2) := by decide +kernel
theorem dX6_faded_51 : decode cX6_faded 51 = .ok (.iload 4, 2) := by decide +kernel
theorem dX6_faded_53 : decode cX6_faded 53 = .ok (.bipush 40, 2) := by decide +kernel
theorem dX6_faded_55 : decode cX6_faded 55 = .ok (.if_icmp .gt 48, 3) := by decide +kernel
theorem dX6_faded_58 : decode cX6_faded 58 = .ok (.aload_n 0, 1) := by decide +kernel
theorem dX6_faded_59 : decode cX6_faded 59 = .ok (.getfield 19, 3) := by decide +kernel
theorem dX6_faded_62 : decode cX6_faded 62 = .ok (.aload_n 0, 1) := by decide +kernel
theorem dX6_faded_63 : decode cX6_faded 63 = .ok (.getfield 19, 3) := by decide +kernel
theorem dX6_faded_66 : decode cX6_faded 66 = .ok (.iload_n 1, 1) := by decide +kernel
theorem dX6_faded_67 : decode cX6_faded 67 = .ok (.invokevirtual 93, 3) := by decide +kernel
theorem dX6_faded_70 : decode cX6_faded 70 = .ok (.iload 4, 2) := by decide +kernel
theorem dX6_faded_72 : decode cX6_faded 72 = .ok (.aload_n 0, 1) := by decide +kernel
theorem dX6_faded_73 : decode cX6_faded 73 = .ok (.getfield 37, 3) := by decide +kernel
theorem dX6_faded_76 : decode cX6_faded 76 = .ok (.invokevirtual 187, 3) := by decide +kernel
theorem dX6_faded_79 : decode cX6_faded 79 = .ok (.ifCond .eq 18, 3) := by decide +kernel
theorem dX6_faded_82 : decode cX6_faded 82 = .ok (.aload_n 0, 1) := by decide +kernel
theorem dX6_faded_83 : decode cX6_faded 83 = .ok (.getfield 37, 3) := by decide +kernel
theorem dX6_faded_86 : decode cX6_faded 86 = .ok (.iload_n 2, 1) := by decide +kernel
theorem dX6_faded_87 : decode cX6_faded 87 = .ok (.i2l, 1) := by decide +kernel
theorem dX6_faded_88 : decode cX6_faded 88 = .ok (.invokevirtual 205, 3) := by decide +kernel
theorem dX6_faded_91 : decode cX6_faded 91 = .ok (.ifCond .eq 6, 3) := by decide +kernel
theorem dX6_faded_94 : decode cX6_faded 94 = .ok (.iload 4, 2) := by decide +kernel
theorem dX6_faded_96 : decode cX6_faded 96 = .ok (.ireturn, 1) := by decide +kernel
theorem dX6_faded_97 : decode cX6_faded 97 = .ok (.iinc 4 1, 3) := by decide +kernel
theorem dX6_faded_100 : decode cX6_faded 100 = .ok (.goto (-49), 3) := by decide +kernel
theorem dX6_faded_103 : decode cX6_faded 103 = .ok (.bipush (-9), 2) := by decide +kernel
theorem dX6_faded_105 : decode cX6_faded 105 = .ok (.ireturn, 1) := by decide +kernel
set_option maxRecDepth 20000 in
theorem dX6_group_0 : decode cX6_group 0 = .ok (.iload_n 1, 1) := by decide +kernel
theorem dX6_group_1 : decode cX6_group 1 = .ok (.invokestatic 90, 3) := by decide +kernel
theorem dX6_group_4 : decode cX6_group 4 = .ok (.ifCond .eq 10, 3) := by decide +kernel
theorem dX6_group_7 : decode cX6_group 7 = .ok (.iload_n 2, 1) := by decide +kernel
theorem dX6_group_8 : decode cX6_group 8 = .ok (.invokestatic 113, 3) := by decide +kernel
theorem dX6_group_11 : decode cX6_group 11 = .ok (.ifCond .ne 7, 3) := by decide +kernel
theorem dX6_group_14 : decode cX6_group 14 = .ok (.iconst 1, 1) := by decide +kernel
theorem dX6_group_15 : decode cX6_group 15 = .ok (.goto 4, 3) := by decide +kernel
theorem dX6_group_18 : decode cX6_group 18 = .ok (.iconst 0, 1) := by decide +kernel
theorem dX6_group_19 : decode cX6_group 19 = .ok (.iload 4, 2) := by decide +kernel
theorem dX6_group_21 : decode cX6_group 21 = .ok (.invokestatic 116, 3) := by decide +kernel
theorem dX6_group_24 : decode cX6_group 24 = .ok (.ifCond .ne 7, 3) := by decide +kernel
theorem dX6_group_27 : decode cX6_group 27 = .ok (.iconst 1, 1) := by decide +kernel
theorem dX6_group_28 : decode cX6_group 28 = .ok (.goto 4, 3) := by decide +kernel
theorem dX6_group_31 : decode cX6_group 31 = .ok (.iconst 0, 1) := by decide +kernel
theorem dX6_group_32 : decode cX6_group 32 = .ok (.iload_n 3, 1) := by decide +kernel
theorem dX6_group_33 : decode cX6_group 33 = .ok (.ifCond .ge 7, 3) := by decide +kernel
theorem dX6_group_36 : decode cX6_group 36 = .ok (.iconst 1, 1) := by decide +kernel
theorem dX6_group_37 : decode cX6_group 37 = .ok (.goto 4, 3) := by decide +kernel
theorem dX6_group_40 : decode cX6_group 40 = .ok (.iconst 0, 1) := by decide +kernel
theorem dX6_group_41 : decode cX6_group 41 = .ok (.iload_n 3, 1) := by decide +kernel
theorem dX6_group_42 : decode cX6_group 42 = .ok (.bipush 40, 2) := by decide +kernel
theorem dX6_group_44 : decode cX6_group 44 = .ok (.if_icmp .le 7, 3) := by decide +kernel
theorem dX6_group_47 : decode cX6_group 47 = .ok (.iconst 1, 1) := by decide +kernel
theorem dX6_group_48 : decode cX6_group 48 = .ok (.goto 4, 3) := by decide +kernel
theorem dX6_group_51 : decode cX6_group 51 = .ok (.iconst 0, 1) := by decide +kernel
theorem dX6_group_52 : decode cX6_group 52 = .ok (.invokestatic 45, 3) := by decide +kernel
theorem dX6_group_55 : decode cX6_group 55 = .ok (.istore 5, 2) := by decide +kernel
theorem dX6_group_57 : decode cX6_group 57 = .ok (.iload 5, 2) := by decide +kernel
theorem dX6_group_59 : decode cX6_group 59 = .ok (.ifCond .eq 10, 3) := by decide +kernel
theorem dX6_group_62 : decode cX6_group 62 = .ok (.aload_n 0, 1) := by decide +kernel
theorem dX6_group_63 : decode cX6_group 63 = .ok (.iload 5, 2) := by decide +kernel
theorem dX6_group_65 : decode cX6_group 65 = .ok (.invokevirtual 119, 3) := by decide +kernel
theorem dX6_group_68 : decode cX6_group 68 = .ok (.lreturn, 1) := by decide +kernel
theorem dX6_group_69 : decode cX6_group 69 = .ok (.aload_n 0, 1) := by decide +kernel
theorem dX6_group_70 : decode cX6_group 70 = .ok (.getfield 19, 3) := by decide +kernel
theorem dX6_group_73 : decode cX6_group 73 = .ok (.iload_n 2, 1) := by decide +kernel
theorem dX6_group_74 : decode cX6_group 74 = .ok (.invokevirtual 209, 3) := by decide +kernel
theorem dX6_group_77 : decode cX6_group 77 = .ok (.ifCond .ne 16, 3) := by decide +kernel
theorem dX6_group_80 : decode cX6_group 80 = .ok (.iload 4, 2) := by decide +kernel
theorem dX6_group_82 : decode cX6_group 82 = .ok (.ifCond .ne 9, 3) := by decide +kernel
theorem dX6_group_85 : decode cX6_group 85 = .ok (.ldc2_w 212, 3) := by decide +kernel
theorem dX6_group_88 : decode cX6_group 88 = .ok (.goto 4, 3) := by decide +kernel
theorem dX6_group_91 : decode cX6_group 91 = .ok (.lconst 1, 1) := by decide +kernel
theorem dX6_group_92 : decode cX6_group 92 = .ok (.lreturn, 1) := by decide +kernel
theorem dX6_group_93 : decode cX6_group 93 = .ok (.aload_n 0, 1) := by decide +kernel
theorem dX6_group_94 : decode cX6_group 94 = .ok (.getfield 19, 3) := by decide +kernel
theorem dX6_group_97 : decode cX6_group 97 = .ok (.aload_n 0, 1) := by decide +kernel
theorem dX6_group_98 : decode cX6_group 98 = .ok (.getfield 19, 3) := by decide +kernel
theorem dX6_group_101 : decode cX6_group 101 = .ok (.iload_n 1, 1) := by decide +kernel
theorem dX6_group_102 : decode cX6_group 102 = .ok (.invokevirtual 93, 3) := by decide +kernel
theorem dX6_group_105 : decode cX6_group 105 = .ok (.iload_n 2, 1) := by decide +kernel
theorem dX6_group_106 : decode cX6_group 106 = .ok (.iload_n 3, 1) := by decide +kernel
theorem dX6_group_107 : decode cX6_group 107 = .ok (.aload_n 0, 1) := by decide +kernel
theorem dX6_group_108 : decode cX6_group 108 = .ok (.getfield 37, 3) := by decide +kernel
theorem dX6_group_111 : decode cX6_group 111 = .ok (.invokevirtual 214, 3) := by decide +kernel
theorem dX6_group_114 : decode cX6_group 114 = .ok (.aload_n 0, 1) := by decide +kernel
theorem dX6_group_115 : decode cX6_group 115 = .ok (.getfield 37, 3) := by decide +kernel
theorem dX6_group_118 : decode cX6_group 118 = .ok (.iload 4, 2) := by decide +kernel
theorem dX6_group_120 : decode cX6_group 120 = .ok (.invokevirtual 133, 3) := by decide +kernel
theorem dX6_group_123 : decode cX6_group 123 = .ok (.lreturn, 1) := by decide +kernel
set_option maxRecDepth 20000 in
theorem dX6_least_0 : decode cX6_least 0 = .ok (.iconst 0, 1) := by decide +kernel
theorem dX6_least_1 : decode cX6_least 1 = .ok (.iconst 0, 1) := by decide +kernel
theorem dX6_least_2 : decode cX6_least 2 = .ok (.iload_n 1, 1) := by decide +kernel
theorem dX6_least_3 : decode cX6_least 3 = .ok (.iconst 1, 1) := by decide +kernel
theorem dX6_least_4 : decode cX6_least 4 = .ok (.if_icmp .ge 7, 3) := by decide +kernel
theorem dX6_least_7 : decode cX6_least 7 = .ok (.iconst 1, 1) := by decide +kernel
theorem dX6_least_8 : decode cX6_least 8 = .ok (.goto 4, 3) := by decide +kernel
theorem dX6_least_11 : decode cX6_least 11 = .ok (.iconst 0, 1) := by decide +kernel
theorem dX6_least_12 : decode cX6_least 12 = .ok (.iload_n 1, 1) := by decide +kernel
theorem dX6_least_13 : decode cX6_least 13 = .ok (.bipush 60, 2) := by decide +kernel
theorem dX6_least_15 : decode cX6_least 15 = .ok (.if_icmp .le 7, 3) := by decide +kernel
theorem dX6_least_18 : decode cX6_least 18 = .ok (.iconst 1, 1) := by decide +kernel
theorem dX6_least_19 : decode cX6_least 19 = .ok (.goto 4, 3) := by decide +kernel
theorem dX6_least_22 : decode cX6_least 22 = .ok (.iconst 0, 1) := by decide +kernel
theorem dX6_least_23 : decode cX6_least 23 = .ok (.invokestatic 45, 3) := by decide +kernel
theorem dX6_least_26 : decode cX6_least 26 = .ok (.istore_n 2, 1) := by decide +kernel
theorem dX6_least_27 : decode cX6_least 27 = .ok (.iload_n 2, 1) := by decide +kernel
theorem dX6_least_28 : decode cX6_least 28 = .ok (.ifCond .eq 9, 3) := by decide +kernel
theorem dX6_least_31 : decode cX6_least 31 = .ok (.aload_n 0, 1) := by decide +kernel
theorem dX6_least_32 : decode cX6_least 32 = .ok (.iload_n 2, 1) := by decide +kernel
theorem dX6_least_33 : decode cX6_least 33 = .ok (.invokevirtual 49, 3) := by decide +kernel
theorem dX6_least_36 : decode cX6_least 36 = .ok (.ireturn, 1) := by decide +kernel
theorem dX6_least_37 : decode cX6_least 37 = .ok (.aload_n 0, 1) := by decide +kernel
theorem dX6_least_38 : decode cX6_least 38 = .ok (.getfield 19, 3) := by decide +kernel
theorem dX6_least_41 : decode cX6_least 41 = .ok (.getfield 218, 3) := by decide +kernel
theorem dX6_least_44 : decode cX6_least 44 = .ok (.istore_n 3, 1) := by decide +kernel
theorem dX6_least_45 : decode cX6_least 45 = .ok (.aload_n 0, 1) := by decide +kernel
theorem dX6_least_46 : decode cX6_least 46 = .ok (.getfield 19, 3) := by decide +kernel
theorem dX6_least_49 : decode cX6_least 49 = .ok (.iload_n 1, 1) := by decide +kernel
theorem dX6_least_50 : decode cX6_least 50 = .ok (.putfield 218, 3) := by decide +kernel
theorem dX6_least_53 : decode cX6_least 53 = .ok (.iload_n 3, 1) := by decide +kernel
theorem dX6_least_54 : decode cX6_least 54 = .ok (.ireturn, 1) := by decide +kernel
set_option maxRecDepth 20000 in
theorem dX6_shown_0 : decode cX6_shown 0 = .ok (.iconst 0, 1) := by decide +kernel
theorem dX6_shown_1 : decode cX6_shown 1 = .ok (.istore_n 1, 1) := by decide +kernel
theorem dX6_shown_2 : decode cX6_shown 2 = .ok (.iconst 0, 1) := by decide +kernel
theorem dX6_shown_3 : decode cX6_shown 3 = .ok (.istore_n 2, 1) := by decide +kernel
theorem dX6_shown_4 : decode cX6_shown 4 = .ok (.iload_n 2, 1) := by decide +kernel
theorem dX6_shown_5 : decode cX6_shown 5 = .ok (.bipush 12, 2) := by decide +kernel
theorem dX6_shown_7 : decode cX6_shown 7 = .ok (.if_icmp .ge 26, 3) := by decide +kernel
theorem dX6_shown_10 : decode cX6_shown 10 = .ok (.aload_n 0, 1) := by decide +kernel
theorem dX6_shown_11 : decode cX6_shown 11 = .ok (.getfield 19, 3) := by decide +kernel
theorem dX6_shown_14 : decode cX6_shown 14 = .ok (.iload_n 2, 1) := by decide +kernel
theorem dX6_shown_15 : decode cX6_shown 15 = .ok (.invokevirtual 209, 3) := by decide +kernel
theorem dX6_shown_18 : decode cX6_shown 18 = .ok (.ifCond .eq 9, 3) := by decide +kernel
theorem dX6_shown_21 : decode cX6_shown 21 = .ok (.iload_n 1, 1) := by decide +kernel
theorem dX6_shown_22 : decode cX6_shown 22 = .ok (.iconst 1, 1) := by decide +kernel
theorem dX6_shown_23 : decode cX6_shown 23 = .ok (.iload_n 2, 1) := by decide +kernel
theorem dX6_shown_24 : decode cX6_shown 24 = .ok (.ishl, 1) := by decide +kernel
theorem dX6_shown_25 : decode cX6_shown 25 = .ok (.ior, 1) := by decide +kernel
theorem dX6_shown_26 : decode cX6_shown 26 = .ok (.istore_n 1, 1) := by decide +kernel
theorem dX6_shown_27 : decode cX6_shown 27 = .ok (.iinc 2 1, 3) := by decide +kernel
theorem dX6_shown_30 : decode cX6_shown 30 = .ok (.goto (-26), 3) := by decide +kernel
theorem dX6_shown_33 : decode cX6_shown 33 = .ok (.iload_n 1, 1) := by decide +kernel
theorem dX6_shown_34 : decode cX6_shown 34 = .ok (.ireturn, 1) := by decide +kernel
set_option maxRecDepth 20000 in
theorem dX6_moved_0 : decode cX6_moved 0 = .ok (.iconst 0, 1) := by decide +kernel
theorem dX6_moved_1 : decode cX6_moved 1 = .ok (.istore_n 1, 1) := by decide +kernel
theorem dX6_moved_2 : decode cX6_moved 2 = .ok (.iconst 0, 1) := by decide +kernel
theorem dX6_moved_3 : decode cX6_moved 3 = .ok (.istore_n 2, 1) := by decide +kernel
theorem dX6_moved_4 : decode cX6_moved 4 = .ok (.iload_n 2, 1) := by decide +kernel
theorem dX6_moved_5 : decode cX6_moved 5 = .ok (.aload_n 0, 1) := by decide +kernel
theorem dX6_moved_6 : decode cX6_moved 6 = .ok (.getfield 19, 3) := by decide +kernel
theorem dX6_moved_9 : decode cX6_moved 9 = .ok (.getfield 61, 3) := by decide +kernel
theorem dX6_moved_12 : decode cX6_moved 12 = .ok (.getfield 65, 3) := by decide +kernel
theorem dX6_moved_15 : decode cX6_moved 15 = .ok (.if_icmp .ge 47, 3) := by decide +kernel
theorem dX6_moved_18 : decode cX6_moved 18 = .ok (.aload_n 0, 1) := by decide +kernel
theorem dX6_moved_19 : decode cX6_moved 19 = .ok (.getfield 19, 3) := by decide +kernel
theorem dX6_moved_22 : decode cX6_moved 22 = .ok (.aload_n 0, 1) := by decide +kernel
theorem dX6_moved_23 : decode cX6_moved 23 = .ok (.getfield 19, 3) := by decide +kernel
theorem dX6_moved_26 : decode cX6_moved 26 = .ok (.iconst 0, 1) := by decide +kernel
theorem dX6_moved_27 : decode cX6_moved 27 = .ok (.invokevirtual 93, 3) := by decide +kernel
theorem dX6_moved_30 : decode cX6_moved 30 = .ok (.iload_n 2, 1) := by decide +kernel
theorem dX6_moved_31 : decode cX6_moved 31 = .ok (.invokevirtual 175, 3) := by decide +kernel
theorem dX6_moved_34 : decode cX6_moved 34 = .ok (.aload_n 0, 1) := by decide +kernel
theorem dX6_moved_35 : decode cX6_moved 35 = .ok (.getfield 19, 3) := by decide +kernel
theorem dX6_moved_38 : decode cX6_moved 38 = .ok (.aload_n 0, 1) := by decide +kernel
theorem dX6_moved_39 : decode cX6_moved 39 = .ok (.getfield 19, 3) := by decide +kernel
theorem dX6_moved_42 : decode cX6_moved 42 = .ok (.iconst 1, 1) := by decide +kernel
theorem dX6_moved_43 : decode cX6_moved 43 = .ok (.invokevirtual 93, 3) := by decide +kernel
theorem dX6_moved_46 : decode cX6_moved 46 = .ok (.iload_n 2, 1) := by decide +kernel
theorem dX6_moved_47 : decode cX6_moved 47 = .ok (.invokevirtual 175, 3) := by decide +kernel
theorem dX6_moved_50 : decode cX6_moved 50 = .ok (.if_icmp .eq 6, 3) := by decide +kernel
theorem dX6_moved_53 : decode cX6_moved 53 = .ok (.iinc 1 1, 3) := by decide +kernel
theorem dX6_moved_56 : decode cX6_moved 56 = .ok (.iinc 2 1, 3) := by decide +kernel
theorem dX6_moved_59 : decode cX6_moved 59 = .ok (.goto (-55), 3) := by decide +kernel
theorem dX6_moved_62 : decode cX6_moved 62 = .ok (.iload_n 1, 1) := by decide +kernel
theorem dX6_moved_63 : decode cX6_moved 63 = .ok (.ireturn, 1) := by decide +kernel
set_option maxRecDepth 20000 in
theorem dX6_cuts_0 : decode cX6_cuts 0 = .ok (.iload_n 1, 1) := by decide +kernel
theorem dX6_cuts_1 : decode cX6_cuts 1 = .ok (.invokestatic 90, 3) := by decide +kernel
theorem dX6_cuts_4 : decode cX6_cuts 4 = .ok (.ifCond .ne 7, 3) := by decide +kernel
theorem dX6_cuts_7 : decode cX6_cuts 7 = .ok (.iconst 1, 1) := by decide +kernel
theorem dX6_cuts_8 : decode cX6_cuts 8 = .ok (.goto 4, 3) := by decide +kernel
theorem dX6_cuts_11 : decode cX6_cuts 11 = .ok (.iconst 0, 1) := by decide +kernel
theorem dX6_cuts_12 : decode cX6_cuts 12 = .ok (.iconst 0, 1) := by decide +kernel
theorem dX6_cuts_13 : decode cX6_cuts 13 = .ok (.iload_n 2, 1) := by decide +kernel
theorem dX6_cuts_14 : decode cX6_cuts 14 = .ok (.ifCond .ge 7, 3) := by decide +kernel
theorem dX6_cuts_17 : decode cX6_cuts 17 = .ok (.iconst 1, 1) := by decide +kernel
theorem dX6_cuts_18 : decode cX6_cuts 18 = .ok (.goto 4, 3) := by decide +kernel
theorem dX6_cuts_21 : decode cX6_cuts 21 = .ok (.iconst 0, 1) := by decide +kernel
theorem dX6_cuts_22 : decode cX6_cuts 22 = .ok (.iload_n 2, 1) := by decide +kernel
theorem dX6_cuts_23 : decode cX6_cuts 23 = .ok (.bipush 60, 2) := by decide +kernel
theorem dX6_cuts_25 : decode cX6_cuts 25 = .ok (.if_icmp .le 7, 3) := by decide +kernel
theorem dX6_cuts_28 : decode cX6_cuts 28 = .ok (.iconst 1, 1) := by decide +kernel
theorem dX6_cuts_29 : decode cX6_cuts 29 = .ok (.goto 4, 3) := by decide +kernel
theorem dX6_cuts_32 : decode cX6_cuts 32 = .ok (.iconst 0, 1) := by decide +kernel
theorem dX6_cuts_33 : decode cX6_cuts 33 = .ok (.invokestatic 45, 3) := by decide +kernel
theorem dX6_cuts_36 : decode cX6_cuts 36 = .ok (.istore_n 3, 1) := by decide +kernel
theorem dX6_cuts_37 : decode cX6_cuts 37 = .ok (.iload_n 3, 1) := by decide +kernel
theorem dX6_cuts_38 : decode cX6_cuts 38 = .ok (.ifCond .eq 9, 3) := by decide +kernel
theorem dX6_cuts_41 : decode cX6_cuts 41 = .ok (.aload_n 0, 1) := by decide +kernel
theorem dX6_cuts_42 : decode cX6_cuts 42 = .ok (.iload_n 3, 1) := by decide +kernel
theorem dX6_cuts_43 : decode cX6_cuts 43 = .ok (.invokevirtual 49, 3) := by decide +kernel
theorem dX6_cuts_46 : decode cX6_cuts 46 = .ok (.ireturn, 1) := by decide +kernel
theorem dX6_cuts_47 : decode cX6_cuts 47 = .ok (.aload_n 0, 1) := by decide +kernel
theorem dX6_cuts_48 : decode cX6_cuts 48 = .ok (.getfield 19, 3) := by decide +kernel
theorem dX6_cuts_51 : decode cX6_cuts 51 = .ok (.aload_n 0, 1) := by decide +kernel
theorem dX6_cuts_52 : decode cX6_cuts 52 = .ok (.getfield 19, 3) := by decide +kernel
theorem dX6_cuts_55 : decode cX6_cuts 55 = .ok (.iload_n 1, 1) := by decide +kernel
theorem dX6_cuts_56 : decode cX6_cuts 56 = .ok (.invokevirtual 93, 3) := by decide +kernel
theorem dX6_cuts_59 : decode cX6_cuts 59 = .ok (.iload_n 2, 1) := by decide +kernel
theorem dX6_cuts_60 : decode cX6_cuts 60 = .ok (.invokevirtual 221, 3) := by decide +kernel
theorem dX6_cuts_63 : decode cX6_cuts 63 = .ok (.ireturn, 1) := by decide +kernel
set_option maxRecDepth 20000 in
theorem dX6_image_0 : decode cX6_image 0 = .ok (.aload_n 0, 1) := by decide +kernel
theorem dX6_image_1 : decode cX6_image 1 = .ok (.getfield 23, 3) := by decide +kernel
theorem dX6_image_4 : decode cX6_image 4 = .ok (.aload_n 0, 1) := by decide +kernel
theorem dX6_image_5 : decode cX6_image 5 = .ok (.getfield 19, 3) := by decide +kernel
theorem dX6_image_8 : decode cX6_image 8 = .ok (.invokevirtual 224, 3) := by decide +kernel
theorem dX6_image_11 : decode cX6_image 11 = .ok (.aload_n 0, 1) := by decide +kernel
theorem dX6_image_12 : decode cX6_image 12 = .ok (.iconst 1, 1) := by decide +kernel
theorem dX6_image_13 : decode cX6_image 13 = .ok (.putfield 26, 3) := by decide +kernel
theorem dX6_image_16 : decode cX6_image 16 = .ok (.aload_n 0, 1) := by decide +kernel
theorem dX6_image_17 : decode cX6_image 17 = .ok (.getfield 23, 3) := by decide +kernel
theorem dX6_image_20 : decode cX6_image 20 = .ok (.getfield 61, 3) := by decide +kernel
theorem dX6_image_23 : decode cX6_image 23 = .ok (.getfield 65, 3) := by decide +kernel
theorem dX6_image_26 : decode cX6_image 26 = .ok (.ireturn, 1) := by decide +kernel
set_option maxRecDepth 20000 in
theorem dX6_on_0 : decode cX6_on 0 = .ok (.aload_n 0, 1) := by decide +kernel
theorem dX6_on_1 : decode cX6_on 1 = .ok (.getfield 26, 3) := by decide +kernel
theorem dX6_on_4 : decode cX6_on 4 = .ok (.ifCond .ne 10, 3) := by decide +kernel
theorem dX6_on_7 : decode cX6_on 7 = .ok (.aload_n 0, 1) := by decide +kernel
theorem dX6_on_8 : decode cX6_on 8 = .ok (.bipush (-3), 2) := by decide +kernel
theorem dX6_on_10 : decode cX6_on 10 = .ok (.invokevirtual 49, 3) := by decide +kernel
theorem dX6_on_13 : decode cX6_on 13 = .ok (.ireturn, 1) := by decide +kernel
theorem dX6_on_14 : decode cX6_on 14 = .ok (.aload_n 0, 1) := by decide +kernel
theorem dX6_on_15 : decode cX6_on 15 = .ok (.getfield 19, 3) := by decide +kernel
theorem dX6_on_18 : decode cX6_on 18 = .ok (.aload_n 0, 1) := by decide +kernel
theorem dX6_on_19 : decode cX6_on 19 = .ok (.getfield 23, 3) := by decide +kernel
theorem dX6_on_22 : decode cX6_on 22 = .ok (.invokevirtual 224, 3) := by decide +kernel
theorem dX6_on_25 : decode cX6_on 25 = .ok (.aload_n 0, 1) := by decide +kernel
theorem dX6_on_26 : decode cX6_on 26 = .ok (.getfield 19, 3) := by decide +kernel
theorem dX6_on_29 : decode cX6_on 29 = .ok (.getfield 61, 3) := by decide +kernel
theorem dX6_on_32 : decode cX6_on 32 = .ok (.getfield 65, 3) := by decide +kernel
theorem dX6_on_35 : decode cX6_on 35 = .ok (.ireturn, 1) := by decide +kernel
set_option maxRecDepth 20000 in
theorem dX6_count_0 : decode cX6_count 0 = .ok (.iload_n 1, 1) := by decide +kernel
theorem dX6_count_1 : decode cX6_count 1 = .ok (.bipush 10, 2) := by decide +kernel
theorem dX6_count_3 : decode cX6_count 3 = .ok (.if_icmp .le 21, 3) := by decide +kernel
theorem dX6_count_6 : decode cX6_count 6 = .ok (.iload_n 1, 1) := by decide +kernel
theorem dX6_count_7 : decode cX6_count 7 = .ok (.bipush 16, 2) := by decide +kernel
theorem dX6_count_9 : decode cX6_count 9 = .ok (.if_icmp .gt 15, 3) := by decide +kernel
theorem dX6_count_12 : decode cX6_count 12 = .ok (.aload_n 0, 1) := by decide +kernel
theorem dX6_count_13 : decode cX6_count 13 = .ok (.getfield 30, 3) := by decide +kernel
theorem dX6_count_16 : decode cX6_count 16 = .ok (.iload_n 1, 1) := by decide +kernel
theorem dX6_count_17 : decode cX6_count 17 = .ok (.bipush 10, 2) := by decide +kernel
theorem dX6_count_19 : decode cX6_count 19 = .ok (.isub, 1) := by decide +kernel
theorem dX6_count_20 : decode cX6_count 20 = .ok (.invokestatic 164, 3) := by decide +kernel
theorem dX6_count_23 : decode cX6_count 23 = .ok (.ireturn, 1) := by decide +kernel
theorem dX6_count_24 : decode cX6_count 24 = .ok (.iload_n 1, 1) := by decide +kernel
theorem dX6_count_25 : decode cX6_count 25 = .ok (.tableswitch 82 0 3 #[31, 42, 58, 74], 31) := by decide +kernel
theorem dX6_count_56 : decode cX6_count 56 = .ok (.aload_n 0, 1) := by decide +kernel
theorem dX6_count_57 : decode cX6_count 57 = .ok (.getfield 19, 3) := by decide +kernel
theorem dX6_count_60 : decode cX6_count 60 = .ok (.getfield 61, 3) := by decide +kernel
theorem dX6_count_63 : decode cX6_count 63 = .ok (.getfield 65, 3) := by decide +kernel
theorem dX6_count_66 : decode cX6_count 66 = .ok (.ireturn, 1) := by decide +kernel
theorem dX6_count_67 : decode cX6_count 67 = .ok (.aload_n 0, 1) := by decide +kernel
theorem dX6_count_68 : decode cX6_count 68 = .ok (.getfield 19, 3) := by decide +kernel
theorem dX6_count_71 : decode cX6_count 71 = .ok (.aload_n 0, 1) := by decide +kernel
theorem dX6_count_72 : decode cX6_count 72 = .ok (.getfield 19, 3) := by decide +kernel
theorem dX6_count_75 : decode cX6_count 75 = .ok (.iconst 0, 1) := by decide +kernel
theorem dX6_count_76 : decode cX6_count 76 = .ok (.invokevirtual 93, 3) := by decide +kernel
theorem dX6_count_79 : decode cX6_count 79 = .ok (.invokevirtual 228, 3) := by decide +kernel
theorem dX6_count_82 : decode cX6_count 82 = .ok (.ireturn, 1) := by decide +kernel
theorem dX6_count_83 : decode cX6_count 83 = .ok (.aload_n 0, 1) := by decide +kernel
theorem dX6_count_84 : decode cX6_count 84 = .ok (.getfield 19, 3) := by decide +kernel
theorem dX6_count_87 : decode cX6_count 87 = .ok (.aload_n 0, 1) := by decide +kernel
theorem dX6_count_88 : decode cX6_count 88 = .ok (.getfield 19, 3) := by decide +kernel
theorem dX6_count_91 : decode cX6_count 91 = .ok (.iconst 1, 1) := by decide +kernel
theorem dX6_count_92 : decode cX6_count 92 = .ok (.invokevirtual 93, 3) := by decide +kernel
theorem dX6_count_95 : decode cX6_count 95 = .ok (.invokevirtual 228, 3) := by decide +kernel
theorem dX6_count_98 : decode cX6_count 98 = .ok (.ireturn, 1) := by decide +kernel
theorem dX6_count_99 : decode cX6_count 99 = .ok (.aload_n 0, 1) := by decide +kernel
theorem dX6_count_100 : decode cX6_count 100 = .ok (.getfield 10, 3) := by decide +kernel
theorem dX6_count_103 : decode cX6_count 103 = .ok (.getfield 57, 3) := by decide +kernel
theorem dX6_count_106 : decode cX6_count 106 = .ok (.ireturn, 1) := by decide +kernel
theorem dX6_count_107 : decode cX6_count 107 = .ok (.bipush (-9), 2) := by decide +kernel
theorem dX6_count_109 : decode cX6_count 109 = .ok (.ireturn, 1) := by decide +kernel
theorem dX6_isMan_0 : decode cX6_isMan 0 = .ok (.iload_n 1, 1) := by decide +kernel
theorem dX6_isMan_1 : decode cX6_isMan 1 = .ok (.ifCond .lt 21, 3) := by decide +kernel
theorem dX6_isMan_4 : decode cX6_isMan 4 = .ok (.iload_n 1, 1) := by decide +kernel
theorem dX6_isMan_5 : decode cX6_isMan 5 = .ok (.aload_n 0, 1) := by decide +kernel
theorem dX6_isMan_6 : decode cX6_isMan 6 = .ok (.getfield 19, 3) := by decide +kernel
theorem dX6_isMan_9 : decode cX6_isMan 9 = .ok (.getfield 61, 3) := by decide +kernel
theorem dX6_isMan_12 : decode cX6_isMan 12 = .ok (.getfield 65, 3) := by decide +kernel
theorem dX6_isMan_15 : decode cX6_isMan 15 = .ok (.if_icmp .ge 7, 3) := by decide +kernel
theorem dX6_isMan_18 : decode cX6_isMan 18 = .ok (.iconst 1, 1) := by decide +kernel
theorem dX6_isMan_19 : decode cX6_isMan 19 = .ok (.goto 4, 3) := by decide +kernel
theorem dX6_isMan_22 : decode cX6_isMan 22 = .ok (.iconst 0, 1) := by decide +kernel
theorem dX6_isMan_23 : decode cX6_isMan 23 = .ok (.ireturn, 1) := by decide +kernel
theorem dX6_isJar_0 : decode cX6_isJar 0 = .ok (.iload_n 0, 1) := by decide +kernel
theorem dX6_isJar_1 : decode cX6_isJar 1 = .ok (.ifCond .eq 8, 3) := by decide +kernel
theorem dX6_isJar_4 : decode cX6_isJar 4 = .ok (.iload_n 0, 1) := by decide +kernel
theorem dX6_isJar_5 : decode cX6_isJar 5 = .ok (.iconst 1, 1) := by decide +kernel
theorem dX6_isJar_6 : decode cX6_isJar 6 = .ok (.if_icmp .ne 7, 3) := by decide +kernel
theorem dX6_isJar_9 : decode cX6_isJar 9 = .ok (.iconst 1, 1) := by decide +kernel
theorem dX6_isJar_10 : decode cX6_isJar 10 = .ok (.goto 4, 3) := by decide +kernel
theorem dX6_isJar_13 : decode cX6_isJar 13 = .ok (.iconst 0, 1) := by decide +kernel
theorem dX6_isJar_14 : decode cX6_isJar 14 = .ok (.ireturn, 1) := by decide +kernel
theorem dX6_isMonth_0 : decode cX6_isMonth 0 = .ok (.iload_n 0, 1) := by decide +kernel
theorem dX6_isMonth_1 : decode cX6_isMonth 1 = .ok (.ifCond .lt 13, 3) := by decide +kernel
theorem dX6_isMonth_4 : decode cX6_isMonth 4 = .ok (.iload_n 0, 1) := by decide +kernel
theorem dX6_isMonth_5 : decode cX6_isMonth 5 = .ok (.bipush 12, 2) := by decide +kernel
theorem dX6_isMonth_7 : decode cX6_isMonth 7 = .ok (.if_icmp .ge 7, 3) := by decide +kernel
theorem dX6_isMonth_10 : decode cX6_isMonth 10 = .ok (.iconst 1, 1) := by decide +kernel
theorem dX6_isMonth_11 : decode cX6_isMonth 11 = .ok (.goto 4, 3) := by decide +kernel
theorem dX6_isMonth_14 : decode cX6_isMonth 14 = .ok (.iconst 0, 1) := by decide +kernel
theorem dX6_isMonth_15 : decode cX6_isMonth 15 = .ok (.ireturn, 1) := by decide +kernel
theorem dX6_isPart_0 : decode cX6_isPart 0 = .ok (.iload_n 0, 1) := by decide +kernel
theorem dX6_isPart_1 : decode cX6_isPart 1 = .ok (.ifCond .eq 8, 3) := by decide +kernel
theorem dX6_isPart_4 : decode cX6_isPart 4 = .ok (.iload_n 0, 1) := by decide +kernel
theorem dX6_isPart_5 : decode cX6_isPart 5 = .ok (.iconst 1, 1) := by decide +kernel
theorem dX6_isPart_6 : decode cX6_isPart 6 = .ok (.if_icmp .ne 7, 3) := by decide +kernel
theorem dX6_isPart_9 : decode cX6_isPart 9 = .ok (.iconst 1, 1) := by decide +kernel
theorem dX6_isPart_10 : decode cX6_isPart 10 = .ok (.goto 4, 3) := by decide +kernel
theorem dX6_isPart_13 : decode cX6_isPart 13 = .ok (.iconst 0, 1) := by decide +kernel
theorem dX6_isPart_14 : decode cX6_isPart 14 = .ok (.ireturn, 1) := by decide +kernel
theorem dX6_firstThatFits_0 : decode cX6_firstThatFits 0 = .ok (.iload_n 0, 1) := by decide +kernel
theorem dX6_firstThatFits_1 : decode cX6_firstThatFits 1 = .ok (.ifCond .eq 5, 3) := by decide +kernel
theorem dX6_firstThatFits_4 : decode cX6_firstThatFits 4 = .ok (.iconst (-1), 1) := by decide +kernel
theorem dX6_firstThatFits_5 : decode cX6_firstThatFits 5 = .ok (.ireturn, 1) := by decide +kernel
theorem dX6_firstThatFits_6 : decode cX6_firstThatFits 6 = .ok (.iload_n 1, 1) := by decide +kernel
theorem dX6_firstThatFits_7 : decode cX6_firstThatFits 7 = .ok (.ifCond .eq 6, 3) := by decide +kernel
theorem dX6_firstThatFits_10 : decode cX6_firstThatFits 10 = .ok (.bipush (-2), 2) := by decide +kernel
theorem dX6_firstThatFits_12 : decode cX6_firstThatFits 12 = .ok (.ireturn, 1) := by decide +kernel
theorem dX6_firstThatFits_13 : decode cX6_firstThatFits 13 = .ok (.iload_n 2, 1) := by decide +kernel
theorem dX6_firstThatFits_14 : decode cX6_firstThatFits 14 = .ok (.ifCond .eq 6, 3) := by decide +kernel
theorem dX6_firstThatFits_17 : decode cX6_firstThatFits 17 = .ok (.bipush (-4), 2) := by decide +kernel
theorem dX6_firstThatFits_19 : decode cX6_firstThatFits 19 = .ok (.ireturn, 1) := by decide +kernel
theorem dX6_firstThatFits_20 : decode cX6_firstThatFits 20 = .ok (.iload_n 3, 1) := by decide +kernel
theorem dX6_firstThatFits_21 : decode cX6_firstThatFits 21 = .ok (.ifCond .eq 8, 3) := by decide +kernel
theorem dX6_firstThatFits_24 : decode cX6_firstThatFits 24 = .ok (.bipush (-6), 2) := by decide +kernel
theorem dX6_firstThatFits_26 : decode cX6_firstThatFits 26 = .ok (.goto 4, 3) := by decide +kernel
theorem dX6_firstThatFits_29 : decode cX6_firstThatFits 29 = .ok (.iconst 0, 1) := by decide +kernel
theorem dX6_firstThatFits_30 : decode cX6_firstThatFits 30 = .ok (.ireturn, 1) := by decide +kernel
set_option maxRecDepth 20000 in
theorem dX6_refuse_0 : decode cX6_refuse 0 = .ok (.aload_n 0, 1) := by decide +kernel
theorem dX6_refuse_1 : decode cX6_refuse 1 = .ok (.getfield 30, 3) := by decide +kernel
theorem dX6_refuse_4 : decode cX6_refuse 4 = .ok (.iload_n 1, 1) := by decide +kernel
theorem dX6_refuse_5 : decode cX6_refuse 5 = .ok (.ineg, 1) := by decide +kernel
theorem dX6_refuse_6 : decode cX6_refuse 6 = .ok (.aload_n 0, 1) := by decide +kernel
theorem dX6_refuse_7 : decode cX6_refuse 7 = .ok (.getfield 30, 3) := by decide +kernel
theorem dX6_refuse_10 : decode cX6_refuse 10 = .ok (.iload_n 1, 1) := by decide +kernel
theorem dX6_refuse_11 : decode cX6_refuse 11 = .ok (.ineg, 1) := by decide +kernel
theorem dX6_refuse_12 : decode cX6_refuse 12 = .ok (.invokestatic 164, 3) := by decide +kernel
theorem dX6_refuse_15 : decode cX6_refuse 15 = .ok (.iconst 1, 1) := by decide +kernel
theorem dX6_refuse_16 : decode cX6_refuse 16 = .ok (.iadd, 1) := by decide +kernel
theorem dX6_refuse_17 : decode cX6_refuse 17 = .ok (.invokestatic 171, 3) := by decide +kernel
theorem dX6_refuse_20 : decode cX6_refuse 20 = .ok (.iload_n 1, 1) := by decide +kernel
theorem dX6_refuse_21 : decode cX6_refuse 21 = .ok (.ireturn, 1) := by decide +kernel
set_option maxRecDepth 20000 in
theorem dX6_refuseLong_0 : decode cX6_refuseLong 0 = .ok (.ldc2_w 232, 3) := by decide +kernel
theorem dX6_refuseLong_3 : decode cX6_refuseLong 3 = .ok (.aload_n 0, 1) := by decide +kernel
theorem dX6_refuseLong_4 : decode cX6_refuseLong 4 = .ok (.iload_n 1, 1) := by decide +kernel
theorem dX6_refuseLong_5 : decode cX6_refuseLong 5 = .ok (.invokevirtual 49, 3) := by decide +kernel
theorem dX6_refuseLong_8 : decode cX6_refuseLong 8 = .ok (.i2l, 1) := by decide +kernel
theorem dX6_refuseLong_9 : decode cX6_refuseLong 9 = .ok (.lsub, 1) := by decide +kernel
theorem dX6_refuseLong_10 : decode cX6_refuseLong 10 = .ok (.lreturn, 1) := by decide +kernel
set_option maxRecDepth 20000 in
theorem dX6_partOrNone_0 : decode cX6_partOrNone 0 = .ok (.iload_n 1, 1) := by decide +kernel
theorem dX6_partOrNone_1 : decode cX6_partOrNone 1 = .ok (.ifCond .eq 14, 3) := by decide +kernel
theorem dX6_partOrNone_4 : decode cX6_partOrNone 4 = .ok (.aload_n 0, 1) := by decide +kernel
theorem dX6_partOrNone_5 : decode cX6_partOrNone 5 = .ok (.getfield 37, 3) := by decide +kernel
theorem dX6_partOrNone_8 : decode cX6_partOrNone 8 = .ok (.iload_n 2, 1) := by decide +kernel
theorem dX6_partOrNone_9 : decode cX6_partOrNone 9 = .ok (.invokevirtual 133, 3) := by decide +kernel
theorem dX6_partOrNone_12 : decode cX6_partOrNone 12 = .ok (.goto 9, 3) := by decide +kernel
theorem dX6_partOrNone_15 : decode cX6_partOrNone 15 = .ok (.aload_n 0, 1) := by decide +kernel
theorem dX6_partOrNone_16 : decode cX6_partOrNone 16 = .ok (.bipush (-3), 2) := by decide +kernel
theorem dX6_partOrNone_18 : decode cX6_partOrNone 18 = .ok (.invokevirtual 119, 3) := by decide +kernel
theorem dX6_partOrNone_21 : decode cX6_partOrNone 21 = .ok (.lreturn, 1) := by decide +kernel
theorem dX6_at_0 : decode cX6_at 0 = .ok (.iload_n 1, 1) := by decide +kernel
theorem dX6_at_1 : decode cX6_at 1 = .ok (.ifCond .lt 15, 3) := by decide +kernel
theorem dX6_at_4 : decode cX6_at 4 = .ok (.iload_n 1, 1) := by decide +kernel
theorem dX6_at_5 : decode cX6_at 5 = .ok (.aload_n 0, 1) := by decide +kernel
theorem dX6_at_6 : decode cX6_at 6 = .ok (.arraylength, 1) := by decide +kernel
theorem dX6_at_7 : decode cX6_at 7 = .ok (.if_icmp .ge 9, 3) := by decide +kernel
theorem dX6_at_10 : decode cX6_at 10 = .ok (.aload_n 0, 1) := by decide +kernel
theorem dX6_at_11 : decode cX6_at 11 = .ok (.iload_n 1, 1) := by decide +kernel
theorem dX6_at_12 : decode cX6_at 12 = .ok (.iaload, 1) := by decide +kernel
theorem dX6_at_13 : decode cX6_at 13 = .ok (.goto 4, 3) := by decide +kernel
theorem dX6_at_16 : decode cX6_at 16 = .ok (.iconst 0, 1) := by decide +kernel
theorem dX6_at_17 : decode cX6_at 17 = .ok (.ireturn, 1) := by decide +kernel
theorem dX6_put_0 : decode cX6_put 0 = .ok (.iload_n 1, 1) := by decide +kernel
theorem dX6_put_1 : decode cX6_put 1 = .ok (.ifCond .lt 13, 3) := by decide +kernel
theorem dX6_put_4 : decode cX6_put 4 = .ok (.iload_n 1, 1) := by decide +kernel
theorem dX6_put_5 : decode cX6_put 5 = .ok (.aload_n 0, 1) := by decide +kernel
theorem dX6_put_6 : decode cX6_put 6 = .ok (.arraylength, 1) := by decide +kernel
theorem dX6_put_7 : decode cX6_put 7 = .ok (.if_icmp .ge 7, 3) := by decide +kernel
theorem dX6_put_10 : decode cX6_put 10 = .ok (.aload_n 0, 1) := by decide +kernel
theorem dX6_put_11 : decode cX6_put 11 = .ok (.iload_n 1, 1) := by decide +kernel
theorem dX6_put_12 : decode cX6_put 12 = .ok (.iload_n 2, 1) := by decide +kernel
theorem dX6_put_13 : decode cX6_put 13 = .ok (.iastore, 1) := by decide +kernel
theorem dX6_put_14 : decode cX6_put 14 = .ok (.return_, 1) := by decide +kernel
theorem dX6_copyRow_0 : decode cX6_copyRow 0 = .ok (.aload_n 0, 1) := by decide +kernel
theorem dX6_copyRow_1 : decode cX6_copyRow 1 = .ok (.iconst 0, 1) := by decide +kernel
theorem dX6_copyRow_2 : decode cX6_copyRow 2 = .ok (.aload_n 1, 1) := by decide +kernel
theorem dX6_copyRow_3 : decode cX6_copyRow 3 = .ok (.iconst 0, 1) := by decide +kernel
theorem dX6_copyRow_4 : decode cX6_copyRow 4 = .ok (.aload_n 0, 1) := by decide +kernel
theorem dX6_copyRow_5 : decode cX6_copyRow 5 = .ok (.arraylength, 1) := by decide +kernel
theorem dX6_copyRow_6 : decode cX6_copyRow 6 = .ok (.aload_n 1, 1) := by decide +kernel
theorem dX6_copyRow_7 : decode cX6_copyRow 7 = .ok (.arraylength, 1) := by decide +kernel
theorem dX6_copyRow_8 : decode cX6_copyRow 8 = .ok (.invokestatic 234, 3) := by decide +kernel
theorem dX6_copyRow_11 : decode cX6_copyRow 11 = .ok (.invokestatic 240, 3) := by decide +kernel
theorem dX6_copyRow_14 : decode cX6_copyRow 14 = .ok (.return_, 1) := by decide +kernel
set_option maxRecDepth 20000 in
theorem dX6_monthLength_0 : decode cX6_monthLength 0 = .ok (.getstatic 246, 3) := by decide +kernel
theorem dX6_monthLength_3 : decode cX6_monthLength 3 = .ok (.iload_n 0, 1) := by decide +kernel
theorem dX6_monthLength_4 : decode cX6_monthLength 4 = .ok (.iconst 1, 1) := by decide +kernel
theorem dX6_monthLength_5 : decode cX6_monthLength 5 = .ok (.iadd, 1) := by decide +kernel
theorem dX6_monthLength_6 : decode cX6_monthLength 6 = .ok (.invokestatic 164, 3) := by decide +kernel
theorem dX6_monthLength_9 : decode cX6_monthLength 9 = .ok (.getstatic 246, 3) := by decide +kernel
theorem dX6_monthLength_12 : decode cX6_monthLength 12 = .ok (.iload_n 0, 1) := by decide +kernel
theorem dX6_monthLength_13 : decode cX6_monthLength 13 = .ok (.invokestatic 164, 3) := by decide +kernel
theorem dX6_monthLength_16 : decode cX6_monthLength 16 = .ok (.isub, 1) := by decide +kernel
theorem dX6_monthLength_17 : decode cX6_monthLength 17 = .ok (.ireturn, 1) := by decide +kernel
set_option maxRecDepth 20000 in
theorem dX6_monthOf_0 : decode cX6_monthOf 0 = .ok (.iconst 0, 1) := by decide +kernel
theorem dX6_monthOf_1 : decode cX6_monthOf 1 = .ok (.istore_n 1, 1) := by decide +kernel
theorem dX6_monthOf_2 : decode cX6_monthOf 2 = .ok (.iload_n 1, 1) := by decide +kernel
theorem dX6_monthOf_3 : decode cX6_monthOf 3 = .ok (.bipush 11, 2) := by decide +kernel
theorem dX6_monthOf_5 : decode cX6_monthOf 5 = .ok (.if_icmp .ge 22, 3) := by decide +kernel
theorem dX6_monthOf_8 : decode cX6_monthOf 8 = .ok (.iload_n 0, 1) := by decide +kernel
theorem dX6_monthOf_9 : decode cX6_monthOf 9 = .ok (.getstatic 246, 3) := by decide +kernel
theorem dX6_monthOf_12 : decode cX6_monthOf 12 = .ok (.iload_n 1, 1) := by decide +kernel
theorem dX6_monthOf_13 : decode cX6_monthOf 13 = .ok (.iconst 1, 1) := by decide +kernel
theorem dX6_monthOf_14 : decode cX6_monthOf 14 = .ok (.iadd, 1) := by decide +kernel
theorem dX6_monthOf_15 : decode cX6_monthOf 15 = .ok (.invokestatic 164, 3) := by decide +kernel
theorem dX6_monthOf_18 : decode cX6_monthOf 18 = .ok (.if_icmp .lt 9, 3) := by decide +kernel
theorem dX6_monthOf_21 : decode cX6_monthOf 21 = .ok (.iinc 1 1, 3) := by decide +kernel
theorem dX6_monthOf_24 : decode cX6_monthOf 24 = .ok (.goto (-22), 3) := by decide +kernel
theorem dX6_monthOf_27 : decode cX6_monthOf 27 = .ok (.iload_n 1, 1) := by decide +kernel
theorem dX6_monthOf_28 : decode cX6_monthOf 28 = .ok (.ireturn, 1) := by decide +kernel
theorem dX7_init_0 : decode cX7_init 0 = .ok (.aload_n 0, 1) := by decide +kernel
theorem dX7_init_1 : decode cX7_init 1 = .ok (.invokespecial 1, 3) := by decide +kernel
theorem dX7_init_4 : decode cX7_init 4 = .ok (.aload_n 0, 1) := by decide +kernel
theorem dX7_init_5 : decode cX7_init 5 = .ok (.bipush 7, 2) := by decide +kernel
theorem dX7_init_7 : decode cX7_init 7 = .ok (.newarray .int, 2) := by decide +kernel
theorem dX7_init_9 : decode cX7_init 9 = .ok (.putfield 7, 3) := by decide +kernel
theorem dX7_init_12 : decode cX7_init 12 = .ok (.aload_n 0, 1) := by decide +kernel
theorem dX7_init_13 : decode cX7_init 13 = .ok (.iconst 2, 1) := by decide +kernel
theorem dX7_init_14 : decode cX7_init 14 = .ok (.newarray .int, 2) := by decide +kernel
theorem dX7_init_16 : decode cX7_init 16 = .ok (.dup, 1) := by decide +kernel
theorem dX7_init_17 : decode cX7_init 17 = .ok (.iconst 0, 1) := by decide +kernel
theorem dX7_init_18 : decode cX7_init 18 = .ok (.iconst 1, 1) := by decide +kernel
theorem dX7_init_19 : decode cX7_init 19 = .ok (.iastore, 1) := by decide +kernel
theorem dX7_init_20 : decode cX7_init 20 = .ok (.dup, 1) := by decide +kernel
theorem dX7_init_21 : decode cX7_init 21 = .ok (.iconst 1, 1) := by decide +kernel
theorem dX7_init_22 : decode cX7_init 22 = .ok (.iconst 1, 1) := by decide +kernel
theorem dX7_init_23 : decode cX7_init 23 = .ok (.iastore, 1) := by decide +kernel
theorem dX7_init_24 : decode cX7_init 24 = .ok (.putfield 13, 3) := by decide +kernel
theorem dX7_init_27 : decode cX7_init 27 = .ok (.aload_n 0, 1) := by decide +kernel
theorem dX7_init_28 : decode cX7_init 28 = .ok (.iconst 2, 1) := by decide +kernel
theorem dX7_init_29 : decode cX7_init 29 = .ok (.newarray .int, 2) := by decide +kernel
theorem dX7_init_31 : decode cX7_init 31 = .ok (.dup, 1) := by decide +kernel
theorem dX7_init_32 : decode cX7_init 32 = .ok (.iconst 0, 1) := by decide +kernel
theorem dX7_init_33 : decode cX7_init 33 = .ok (.bipush 100, 2) := by decide +kernel
theorem dX7_init_35 : decode cX7_init 35 = .ok (.iastore, 1) := by decide +kernel
theorem dX7_init_36 : decode cX7_init 36 = .ok (.dup, 1) := by decide +kernel
theorem dX7_init_37 : decode cX7_init 37 = .ok (.iconst 1, 1) := by decide +kernel
theorem dX7_init_38 : decode cX7_init 38 = .ok (.bipush 100, 2) := by decide +kernel
theorem dX7_init_40 : decode cX7_init 40 = .ok (.iastore, 1) := by decide +kernel
theorem dX7_init_41 : decode cX7_init 41 = .ok (.putfield 16, 3) := by decide +kernel
theorem dX7_init_44 : decode cX7_init 44 = .ok (.aload_n 0, 1) := by decide +kernel
theorem dX7_init_45 : decode cX7_init 45 = .ok (.iconst 2, 1) := by decide +kernel
theorem dX7_init_46 : decode cX7_init 46 = .ok (.newarray .int, 2) := by decide +kernel
theorem dX7_init_48 : decode cX7_init 48 = .ok (.dup, 1) := by decide +kernel
theorem dX7_init_49 : decode cX7_init 49 = .ok (.iconst 0, 1) := by decide +kernel
theorem dX7_init_50 : decode cX7_init 50 = .ok (.bipush 20, 2) := by decide +kernel
theorem dX7_init_52 : decode cX7_init 52 = .ok (.iastore, 1) := by decide +kernel
theorem dX7_init_53 : decode cX7_init 53 = .ok (.dup, 1) := by decide +kernel
theorem dX7_init_54 : decode cX7_init 54 = .ok (.iconst 1, 1) := by decide +kernel
theorem dX7_init_55 : decode cX7_init 55 = .ok (.bipush 20, 2) := by decide +kernel
theorem dX7_init_57 : decode cX7_init 57 = .ok (.iastore, 1) := by decide +kernel
theorem dX7_init_58 : decode cX7_init 58 = .ok (.putfield 19, 3) := by decide +kernel
theorem dX7_init_61 : decode cX7_init 61 = .ok (.aload_n 0, 1) := by decide +kernel
theorem dX7_init_62 : decode cX7_init 62 = .ok (.iconst 2, 1) := by decide +kernel
theorem dX7_init_63 : decode cX7_init 63 = .ok (.newarray .int, 2) := by decide +kernel
theorem dX7_init_65 : decode cX7_init 65 = .ok (.dup, 1) := by decide +kernel
theorem dX7_init_66 : decode cX7_init 66 = .ok (.iconst 0, 1) := by decide +kernel
theorem dX7_init_67 : decode cX7_init 67 = .ok (.iconst 1, 1) := by decide +kernel
theorem dX7_init_68 : decode cX7_init 68 = .ok (.iastore, 1) := by decide +kernel
theorem dX7_init_69 : decode cX7_init 69 = .ok (.dup, 1) := by decide +kernel
theorem dX7_init_70 : decode cX7_init 70 = .ok (.iconst 1, 1) := by decide +kernel
theorem dX7_init_71 : decode cX7_init 71 = .ok (.iconst 1, 1) := by decide +kernel
theorem dX7_init_72 : decode cX7_init 72 = .ok (.iastore, 1) := by decide +kernel
theorem dX7_init_73 : decode cX7_init 73 = .ok (.putfield 22, 3) := by decide +kernel
theorem dX7_init_76 : decode cX7_init 76 = .ok (.aload_n 0, 1) := by decide +kernel
theorem dX7_init_77 : decode cX7_init 77 = .ok (.iconst 2, 1) := by decide +kernel
theorem dX7_init_78 : decode cX7_init 78 = .ok (.newarray .int, 2) := by decide +kernel
theorem dX7_init_80 : decode cX7_init 80 = .ok (.dup, 1) := by decide +kernel
theorem dX7_init_81 : decode cX7_init 81 = .ok (.iconst 0, 1) := by decide +kernel
theorem dX7_init_82 : decode cX7_init 82 = .ok (.iconst 1, 1) := by decide +kernel
theorem dX7_init_83 : decode cX7_init 83 = .ok (.iastore, 1) := by decide +kernel
theorem dX7_init_84 : decode cX7_init 84 = .ok (.dup, 1) := by decide +kernel
theorem dX7_init_85 : decode cX7_init 85 = .ok (.iconst 1, 1) := by decide +kernel
theorem dX7_init_86 : decode cX7_init 86 = .ok (.iconst 1, 1) := by decide +kernel
theorem dX7_init_87 : decode cX7_init 87 = .ok (.iastore, 1) := by decide +kernel
theorem dX7_init_88 : decode cX7_init 88 = .ok (.putfield 25, 3) := by decide +kernel
theorem dX7_init_91 : decode cX7_init 91 = .ok (.aload_n 0, 1) := by decide +kernel
theorem dX7_init_92 : decode cX7_init 92 = .ok (.sipush 732, 3) := by decide +kernel
theorem dX7_init_95 : decode cX7_init 95 = .ok (.newarray .int, 2) := by decide +kernel
theorem dX7_init_97 : decode cX7_init 97 = .ok (.putfield 28, 3) := by decide +kernel
theorem dX7_init_100 : decode cX7_init 100 = .ok (.aload_n 0, 1) := by decide +kernel
theorem dX7_init_101 : decode cX7_init 101 = .ok (.sipush 366, 3) := by decide +kernel
theorem dX7_init_104 : decode cX7_init 104 = .ok (.newarray .int, 2) := by decide +kernel
theorem dX7_init_106 : decode cX7_init 106 = .ok (.putfield 31, 3) := by decide +kernel
theorem dX7_init_109 : decode cX7_init 109 = .ok (.aload_n 0, 1) := by decide +kernel
theorem dX7_init_110 : decode cX7_init 110 = .ok (.bipush 12, 2) := by decide +kernel
theorem dX7_init_112 : decode cX7_init 112 = .ok (.newarray .int, 2) := by decide +kernel
theorem dX7_init_114 : decode cX7_init 114 = .ok (.dup, 1) := by decide +kernel
theorem dX7_init_115 : decode cX7_init 115 = .ok (.iconst 0, 1) := by decide +kernel
theorem dX7_init_116 : decode cX7_init 116 = .ok (.bipush 31, 2) := by decide +kernel
theorem dX7_init_118 : decode cX7_init 118 = .ok (.iastore, 1) := by decide +kernel
theorem dX7_init_119 : decode cX7_init 119 = .ok (.dup, 1) := by decide +kernel
theorem dX7_init_120 : decode cX7_init 120 = .ok (.iconst 1, 1) := by decide +kernel
theorem dX7_init_121 : decode cX7_init 121 = .ok (.bipush 29, 2) := by decide +kernel
theorem dX7_init_123 : decode cX7_init 123 = .ok (.iastore, 1) := by decide +kernel
theorem dX7_init_124 : decode cX7_init 124 = .ok (.dup, 1) := by decide +kernel
theorem dX7_init_125 : decode cX7_init 125 = .ok (.iconst 2, 1) := by decide +kernel
theorem dX7_init_126 : decode cX7_init 126 = .ok (.bipush 31, 2) := by decide +kernel
theorem dX7_init_128 : decode cX7_init 128 = .ok (.iastore, 1) := by decide +kernel
theorem dX7_init_129 : decode cX7_init 129 = .ok (.dup, 1) := by decide +kernel
theorem dX7_init_130 : decode cX7_init 130 = .ok (.iconst 3, 1) := by decide +kernel
theorem dX7_init_131 : decode cX7_init 131 = .ok (.bipush 30, 2) := by decide +kernel
theorem dX7_init_133 : decode cX7_init 133 = .ok (.iastore, 1) := by decide +kernel
theorem dX7_init_134 : decode cX7_init 134 = .ok (.dup, 1) := by decide +kernel
theorem dX7_init_135 : decode cX7_init 135 = .ok (.iconst 4, 1) := by decide +kernel
theorem dX7_init_136 : decode cX7_init 136 = .ok (.bipush 31, 2) := by decide +kernel
theorem dX7_init_138 : decode cX7_init 138 = .ok (.iastore, 1) := by decide +kernel
theorem dX7_init_139 : decode cX7_init 139 = .ok (.dup, 1) := by decide +kernel
theorem dX7_init_140 : decode cX7_init 140 = .ok (.iconst 5, 1) := by decide +kernel
theorem dX7_init_141 : decode cX7_init 141 = .ok (.bipush 30, 2) := by decide +kernel
theorem dX7_init_143 : decode cX7_init 143 = .ok (.iastore, 1) := by decide +kernel
theorem dX7_init_144 : decode cX7_init 144 = .ok (.dup, 1) := by decide +kernel
theorem dX7_init_145 : decode cX7_init 145 = .ok (.bipush 6, 2) := by decide +kernel
theorem dX7_init_147 : decode cX7_init 147 = .ok (.bipush 31, 2) := by decide +kernel
theorem dX7_init_149 : decode cX7_init 149 = .ok (.iastore, 1) := by decide +kernel
theorem dX7_init_150 : decode cX7_init 150 = .ok (.dup, 1) := by decide +kernel
theorem dX7_init_151 : decode cX7_init 151 = .ok (.bipush 7, 2) := by decide +kernel
theorem dX7_init_153 : decode cX7_init 153 = .ok (.bipush 31, 2) := by decide +kernel
theorem dX7_init_155 : decode cX7_init 155 = .ok (.iastore, 1) := by decide +kernel
theorem dX7_init_156 : decode cX7_init 156 = .ok (.dup, 1) := by decide +kernel
theorem dX7_init_157 : decode cX7_init 157 = .ok (.bipush 8, 2) := by decide +kernel
theorem dX7_init_159 : decode cX7_init 159 = .ok (.bipush 30, 2) := by decide +kernel
theorem dX7_init_161 : decode cX7_init 161 = .ok (.iastore, 1) := by decide +kernel
theorem dX7_init_162 : decode cX7_init 162 = .ok (.dup, 1) := by decide +kernel
theorem dX7_init_163 : decode cX7_init 163 = .ok (.bipush 9, 2) := by decide +kernel
theorem dX7_init_165 : decode cX7_init 165 = .ok (.bipush 31, 2) := by decide +kernel
theorem dX7_init_167 : decode cX7_init 167 = .ok (.iastore, 1) := by decide +kernel
theorem dX7_init_168 : decode cX7_init 168 = .ok (.dup, 1) := by decide +kernel
theorem dX7_init_169 : decode cX7_init 169 = .ok (.bipush 10, 2) := by decide +kernel
theorem dX7_init_171 : decode cX7_init 171 = .ok (.bipush 30, 2) := by decide +kernel
theorem dX7_init_173 : decode cX7_init 173 = .ok (.iastore, 1) := by decide +kernel
theorem dX7_init_174 : decode cX7_init 174 = .ok (.dup, 1) := by decide +kernel
theorem dX7_init_175 : decode cX7_init 175 = .ok (.bipush 11, 2) := by decide +kernel
theorem dX7_init_177 : decode cX7_init 177 = .ok (.bipush 31, 2) := by decide +kernel
theorem dX7_init_179 : decode cX7_init 179 = .ok (.iastore, 1) := by decide +kernel
theorem dX7_init_180 : decode cX7_init 180 = .ok (.putfield 34, 3) := by decide +kernel
theorem dX7_init_183 : decode cX7_init 183 = .ok (.aload_n 0, 1) := by decide +kernel
theorem dX7_init_184 : decode cX7_init 184 = .ok (.iconst 2, 1) := by decide +kernel
theorem dX7_init_185 : decode cX7_init 185 = .ok (.newarray .boolean, 2) := by decide +kernel
theorem dX7_init_187 : decode cX7_init 187 = .ok (.putfield 37, 3) := by decide +kernel
theorem dX7_init_190 : decode cX7_init 190 = .ok (.aload_n 0, 1) := by decide +kernel
theorem dX7_init_191 : decode cX7_init 191 = .ok (.bipush 14, 2) := by decide +kernel
theorem dX7_init_193 : decode cX7_init 193 = .ok (.newarray .int, 2) := by decide +kernel
theorem dX7_init_195 : decode cX7_init 195 = .ok (.putfield 41, 3) := by decide +kernel
theorem dX7_init_198 : decode cX7_init 198 = .ok (.aload_n 0, 1) := by decide +kernel
theorem dX7_init_199 : decode cX7_init 199 = .ok (.bipush 60, 2) := by decide +kernel
theorem dX7_init_201 : decode cX7_init 201 = .ok (.newarray .int, 2) := by decide +kernel
theorem dX7_init_203 : decode cX7_init 203 = .ok (.putfield 44, 3) := by decide +kernel
theorem dX7_init_206 : decode cX7_init 206 = .ok (.aload_n 0, 1) := by decide +kernel
theorem dX7_init_207 : decode cX7_init 207 = .ok (.bipush 60, 2) := by decide +kernel
theorem dX7_init_209 : decode cX7_init 209 = .ok (.newarray .int, 2) := by decide +kernel
theorem dX7_init_211 : decode cX7_init 211 = .ok (.putfield 47, 3) := by decide +kernel
theorem dX7_init_214 : decode cX7_init 214 = .ok (.aload_n 0, 1) := by decide +kernel
theorem dX7_init_215 : decode cX7_init 215 = .ok (.bipush 60, 2) := by decide +kernel
theorem dX7_init_217 : decode cX7_init 217 = .ok (.newarray .int, 2) := by decide +kernel
theorem dX7_init_219 : decode cX7_init 219 = .ok (.putfield 50, 3) := by decide +kernel
theorem dX7_init_222 : decode cX7_init 222 = .ok (.aload_n 0, 1) := by decide +kernel
theorem dX7_init_223 : decode cX7_init 223 = .ok (.iconst 5, 1) := by decide +kernel
theorem dX7_init_224 : decode cX7_init 224 = .ok (.newarray .int, 2) := by decide +kernel
theorem dX7_init_226 : decode cX7_init 226 = .ok (.dup, 1) := by decide +kernel
theorem dX7_init_227 : decode cX7_init 227 = .ok (.iconst 0, 1) := by decide +kernel
theorem dX7_init_228 : decode cX7_init 228 = .ok (.bipush 10, 2) := by decide +kernel
theorem dX7_init_230 : decode cX7_init 230 = .ok (.iastore, 1) := by decide +kernel
theorem dX7_init_231 : decode cX7_init 231 = .ok (.dup, 1) := by decide +kernel
theorem dX7_init_232 : decode cX7_init 232 = .ok (.iconst 1, 1) := by decide +kernel
theorem dX7_init_233 : decode cX7_init 233 = .ok (.sipush 150, 3) := by decide +kernel
theorem dX7_init_236 : decode cX7_init 236 = .ok (.iastore, 1) := by decide +kernel
theorem dX7_init_237 : decode cX7_init 237 = .ok (.dup, 1) := by decide +kernel
theorem dX7_init_238 : decode cX7_init 238 = .ok (.iconst 2, 1) := by decide +kernel
theorem dX7_init_239 : decode cX7_init 239 = .ok (.iconst 5, 1) := by decide +kernel
theorem dX7_init_240 : decode cX7_init 240 = .ok (.iastore, 1) := by decide +kernel
theorem dX7_init_241 : decode cX7_init 241 = .ok (.dup, 1) := by decide +kernel
theorem dX7_init_242 : decode cX7_init 242 = .ok (.iconst 3, 1) := by decide +kernel
theorem dX7_init_243 : decode cX7_init 243 = .ok (.bipush 80, 2) := by decide +kernel
theorem dX7_init_245 : decode cX7_init 245 = .ok (.iastore, 1) := by decide +kernel
theorem dX7_init_246 : decode cX7_init 246 = .ok (.dup, 1) := by decide +kernel
theorem dX7_init_247 : decode cX7_init 247 = .ok (.iconst 4, 1) := by decide +kernel
theorem dX7_init_248 : decode cX7_init 248 = .ok (.iconst 0, 1) := by decide +kernel
theorem dX7_init_249 : decode cX7_init 249 = .ok (.iastore, 1) := by decide +kernel
theorem dX7_init_250 : decode cX7_init 250 = .ok (.putfield 53, 3) := by decide +kernel
theorem dX7_init_253 : decode cX7_init 253 = .ok (.aload_n 0, 1) := by decide +kernel
theorem dX7_init_254 : decode cX7_init 254 = .ok (.iconst 5, 1) := by decide +kernel
theorem dX7_init_255 : decode cX7_init 255 = .ok (.newarray .int, 2) := by decide +kernel
theorem dX7_init_257 : decode cX7_init 257 = .ok (.dup, 1) := by decide +kernel
theorem dX7_init_258 : decode cX7_init 258 = .ok (.iconst 0, 1) := by decide +kernel
theorem dX7_init_259 : decode cX7_init 259 = .ok (.bipush 99, 2) := by decide +kernel
theorem dX7_init_261 : decode cX7_init 261 = .ok (.iastore, 1) := by decide +kernel
theorem dX7_init_262 : decode cX7_init 262 = .ok (.dup, 1) := by decide +kernel
theorem dX7_init_263 : decode cX7_init 263 = .ok (.iconst 1, 1) := by decide +kernel
theorem dX7_init_264 : decode cX7_init 264 = .ok (.sipush 999, 3) := by decide +kernel
theorem dX7_init_267 : decode cX7_init 267 = .ok (.iastore, 1) := by decide +kernel
theorem dX7_init_268 : decode cX7_init 268 = .ok (.dup, 1) := by decide +kernel
theorem dX7_init_269 : decode cX7_init 269 = .ok (.iconst 2, 1) := by decide +kernel
theorem dX7_init_270 : decode cX7_init 270 = .ok (.bipush 100, 2) := by decide +kernel
theorem dX7_init_272 : decode cX7_init 272 = .ok (.iastore, 1) := by decide +kernel
theorem dX7_init_273 : decode cX7_init 273 = .ok (.dup, 1) := by decide +kernel
theorem dX7_init_274 : decode cX7_init 274 = .ok (.iconst 3, 1) := by decide +kernel
theorem dX7_init_275 : decode cX7_init 275 = .ok (.sipush 999, 3) := by decide +kernel
theorem dX7_init_278 : decode cX7_init 278 = .ok (.iastore, 1) := by decide +kernel
theorem dX7_init_279 : decode cX7_init 279 = .ok (.dup, 1) := by decide +kernel
theorem dX7_init_280 : decode cX7_init 280 = .ok (.iconst 4, 1) := by decide +kernel
theorem dX7_init_281 : decode cX7_init 281 = .ok (.bipush 99, 2) := by decide +kernel
theorem dX7_init_283 : decode cX7_init 283 = .ok (.iastore, 1) := by decide +kernel
theorem dX7_init_284 : decode cX7_init 284 = .ok (.putfield 56, 3) := by decide +kernel
theorem dX7_init_287 : decode cX7_init 287 = .ok (.aload_n 0, 1) := by decide +kernel
theorem dX7_init_288 : decode cX7_init 288 = .ok (.sipush 195, 3) := by decide +kernel
theorem dX7_init_291 : decode cX7_init 291 = .ok (.putfield 59, 3) := by decide +kernel
theorem dX7_init_294 : decode cX7_init 294 = .ok (.aload_n 0, 1) := by decide +kernel
theorem dX7_init_295 : decode cX7_init 295 = .ok (.iconst 3, 1) := by decide +kernel
theorem dX7_init_296 : decode cX7_init 296 = .ok (.putfield 63, 3) := by decide +kernel
theorem dX7_init_299 : decode cX7_init 299 = .ok (.aload_n 0, 1) := by decide +kernel
theorem dX7_init_300 : decode cX7_init 300 = .ok (.sipush 250, 3) := by decide +kernel
theorem dX7_init_303 : decode cX7_init 303 = .ok (.newarray .int, 2) := by decide +kernel
theorem dX7_init_305 : decode cX7_init 305 = .ok (.putfield 66, 3) := by decide +kernel
theorem dX7_init_308 : decode cX7_init 308 = .ok (.return_, 1) := by decide +kernel
theorem dX7_no_0 : decode cX7_no 0 = .ok (.aload_n 0, 1) := by decide +kernel
theorem dX7_no_1 : decode cX7_no 1 = .ok (.getfield 7, 3) := by decide +kernel
theorem dX7_no_4 : decode cX7_no 4 = .ok (.iload_n 1, 1) := by decide +kernel
theorem dX7_no_5 : decode cX7_no 5 = .ok (.ineg, 1) := by decide +kernel
theorem dX7_no_6 : decode cX7_no 6 = .ok (.dup2, 1) := by decide +kernel
theorem dX7_no_7 : decode cX7_no 7 = .ok (.iaload, 1) := by decide +kernel
theorem dX7_no_8 : decode cX7_no 8 = .ok (.iconst 1, 1) := by decide +kernel
theorem dX7_no_9 : decode cX7_no 9 = .ok (.iadd, 1) := by decide +kernel
theorem dX7_no_10 : decode cX7_no 10 = .ok (.iastore, 1) := by decide +kernel
theorem dX7_no_11 : decode cX7_no 11 = .ok (.iload_n 1, 1) := by decide +kernel
theorem dX7_no_12 : decode cX7_no 12 = .ok (.ireturn, 1) := by decide +kernel
theorem dX7_noLong_0 : decode cX7_noLong 0 = .ok (.aload_n 0, 1) := by decide +kernel
theorem dX7_noLong_1 : decode cX7_noLong 1 = .ok (.getfield 7, 3) := by decide +kernel
theorem dX7_noLong_4 : decode cX7_noLong 4 = .ok (.iload_n 1, 1) := by decide +kernel
theorem dX7_noLong_5 : decode cX7_noLong 5 = .ok (.ineg, 1) := by decide +kernel
theorem dX7_noLong_6 : decode cX7_noLong 6 = .ok (.dup2, 1) := by decide +kernel
theorem dX7_noLong_7 : decode cX7_noLong 7 = .ok (.iaload, 1) := by decide +kernel
theorem dX7_noLong_8 : decode cX7_noLong 8 = .ok (.iconst 1, 1) := by decide +kernel
theorem dX7_noLong_9 : decode cX7_noLong 9 = .ok (.iadd, 1) := by decide +kernel
theorem dX7_noLong_10 : decode cX7_noLong 10 = .ok (.iastore, 1) := by decide +kernel
theorem dX7_noLong_11 : decode cX7_noLong 11 = .ok (.ldc2_w 69, 3) := by decide +kernel
theorem dX7_noLong_14 : decode cX7_noLong 14 = .ok (.iload_n 1, 1) := by decide +kernel
theorem dX7_noLong_15 : decode cX7_noLong 15 = .ok (.i2l, 1) := by decide +kernel
theorem dX7_noLong_16 : decode cX7_noLong 16 = .ok (.lsub, 1) := by decide +kernel
theorem dX7_noLong_17 : decode cX7_noLong 17 = .ok (.lreturn, 1) := by decide +kernel
theorem dX7_isIn_0 : decode cX7_isIn 0 = .ok (.iload_n 0, 1) := by decide +kernel
theorem dX7_isIn_1 : decode cX7_isIn 1 = .ok (.iload_n 1, 1) := by decide +kernel
theorem dX7_isIn_2 : decode cX7_isIn 2 = .ok (.if_icmp .lt 12, 3) := by decide +kernel
theorem dX7_isIn_5 : decode cX7_isIn 5 = .ok (.iload_n 0, 1) := by decide +kernel
theorem dX7_isIn_6 : decode cX7_isIn 6 = .ok (.iload_n 2, 1) := by decide +kernel
theorem dX7_isIn_7 : decode cX7_isIn 7 = .ok (.if_icmp .gt 7, 3) := by decide +kernel
theorem dX7_isIn_10 : decode cX7_isIn 10 = .ok (.iconst 1, 1) := by decide +kernel
theorem dX7_isIn_11 : decode cX7_isIn 11 = .ok (.goto 4, 3) := by decide +kernel
theorem dX7_isIn_14 : decode cX7_isIn 14 = .ok (.iconst 0, 1) := by decide +kernel
theorem dX7_isIn_15 : decode cX7_isIn 15 = .ok (.ireturn, 1) := by decide +kernel
theorem dX7_out_0 : decode cX7_out 0 = .ok (.iload_n 0, 1) := by decide +kernel
theorem dX7_out_1 : decode cX7_out 1 = .ok (.iload_n 1, 1) := by decide +kernel
theorem dX7_out_2 : decode cX7_out 2 = .ok (.if_icmp .ge 8, 3) := by decide +kernel
theorem dX7_out_5 : decode cX7_out 5 = .ok (.bipush (-4), 2) := by decide +kernel
theorem dX7_out_7 : decode cX7_out 7 = .ok (.goto 14, 3) := by decide +kernel
theorem dX7_out_10 : decode cX7_out 10 = .ok (.iload_n 0, 1) := by decide +kernel
theorem dX7_out_11 : decode cX7_out 11 = .ok (.iload_n 2, 1) := by decide +kernel
theorem dX7_out_12 : decode cX7_out 12 = .ok (.if_icmp .le 8, 3) := by decide +kernel
theorem dX7_out_15 : decode cX7_out 15 = .ok (.bipush (-6), 2) := by decide +kernel
theorem dX7_out_17 : decode cX7_out 17 = .ok (.goto 4, 3) := by decide +kernel
theorem dX7_out_20 : decode cX7_out 20 = .ok (.iconst 0, 1) := by decide +kernel
theorem dX7_out_21 : decode cX7_out 21 = .ok (.ireturn, 1) := by decide +kernel
theorem dX7_isJar_0 : decode cX7_isJar 0 = .ok (.iload_n 0, 1) := by decide +kernel
theorem dX7_isJar_1 : decode cX7_isJar 1 = .ok (.ifCond .eq 8, 3) := by decide +kernel
theorem dX7_isJar_4 : decode cX7_isJar 4 = .ok (.iload_n 0, 1) := by decide +kernel
theorem dX7_isJar_5 : decode cX7_isJar 5 = .ok (.iconst 1, 1) := by decide +kernel
theorem dX7_isJar_6 : decode cX7_isJar 6 = .ok (.if_icmp .ne 7, 3) := by decide +kernel
theorem dX7_isJar_9 : decode cX7_isJar 9 = .ok (.iconst 1, 1) := by decide +kernel
theorem dX7_isJar_10 : decode cX7_isJar 10 = .ok (.goto 4, 3) := by decide +kernel
theorem dX7_isJar_13 : decode cX7_isJar 13 = .ok (.iconst 0, 1) := by decide +kernel
theorem dX7_isJar_14 : decode cX7_isJar 14 = .ok (.ireturn, 1) := by decide +kernel
theorem dX7_lot_0 : decode cX7_lot 0 = .ok (.aload_n 0, 1) := by decide +kernel
theorem dX7_lot_1 : decode cX7_lot 1 = .ok (.aload_n 0, 1) := by decide +kernel
theorem dX7_lot_2 : decode cX7_lot 2 = .ok (.getfield 71, 3) := by decide +kernel
theorem dX7_lot_5 : decode cX7_lot 5 = .ok (.ldc 74, 2) := by decide +kernel
theorem dX7_lot_7 : decode cX7_lot 7 = .ok (.imul, 1) := by decide +kernel
theorem dX7_lot_8 : decode cX7_lot 8 = .ok (.ldc 75, 2) := by decide +kernel
theorem dX7_lot_10 : decode cX7_lot 10 = .ok (.iadd, 1) := by decide +kernel
theorem dX7_lot_11 : decode cX7_lot 11 = .ok (.putfield 71, 3) := by decide +kernel
theorem dX7_lot_14 : decode cX7_lot 14 = .ok (.aload_n 0, 1) := by decide +kernel
theorem dX7_lot_15 : decode cX7_lot 15 = .ok (.getfield 71, 3) := by decide +kernel
theorem dX7_lot_18 : decode cX7_lot 18 = .ok (.ldc 76, 2) := by decide +kernel
theorem dX7_lot_20 : decode cX7_lot 20 = .ok (.iand, 1) := by decide +kernel
theorem dX7_lot_21 : decode cX7_lot 21 = .ok (.sipush 256, 3) := by decide +kernel
theorem dX7_lot_24 : decode cX7_lot 24 = .ok (.idiv, 1) := by decide +kernel
theorem dX7_lot_25 : decode cX7_lot 25 = .ok (.iload_n 1, 1) := by decide +kernel
theorem dX7_lot_26 : decode cX7_lot 26 = .ok (.irem, 1) := by decide +kernel
theorem dX7_lot_27 : decode cX7_lot 27 = .ok (.ireturn, 1) := by decide +kernel
set_option maxRecDepth 20000 in
theorem dX7_jar_0 : decode cX7_jar 0 = .ok (.iload_n 1, 1) := by decide +kernel
theorem dX7_jar_1 : decode cX7_jar 1 = .ok (.invokestatic 77, 3) := by decide +kernel
theorem dX7_jar_4 : decode cX7_jar 4 = .ok (.ifCond .ne 9, 3) := by decide +kernel
theorem dX7_jar_7 : decode cX7_jar 7 = .ok (.aload_n 0, 1) := by decide +kernel
theorem dX7_jar_8 : decode cX7_jar 8 = .ok (.iconst (-1), 1) := by decide +kernel
theorem dX7_jar_9 : decode cX7_jar 9 = .ok (.invokevirtual 81, 3) := by decide +kernel
theorem dX7_jar_12 : decode cX7_jar 12 = .ok (.ireturn, 1) := by decide +kernel
theorem dX7_jar_13 : decode cX7_jar 13 = .ok (.iload_n 3, 1) := by decide +kernel
theorem dX7_jar_14 : decode cX7_jar 14 = .ok (.ifCond .lt 14, 3) := by decide +kernel
theorem dX7_jar_17 : decode cX7_jar 17 = .ok (.iload 4, 2) := by decide +kernel
theorem dX7_jar_19 : decode cX7_jar 19 = .ok (.ifCond .lt 9, 3) := by decide +kernel
theorem dX7_jar_22 : decode cX7_jar 22 = .ok (.iload 5, 2) := by decide +kernel
theorem dX7_jar_24 : decode cX7_jar 24 = .ok (.iconst 1, 1) := by decide +kernel
theorem dX7_jar_25 : decode cX7_jar 25 = .ok (.if_icmp .ge 8, 3) := by decide +kernel
theorem dX7_jar_28 : decode cX7_jar 28 = .ok (.bipush (-4), 2) := by decide +kernel
theorem dX7_jar_30 : decode cX7_jar 30 = .ok (.goto 32, 3) := by decide +kernel
theorem dX7_jar_33 : decode cX7_jar 33 = .ok (.iload_n 3, 1) := by decide +kernel
theorem dX7_jar_34 : decode cX7_jar 34 = .ok (.sipush 2000, 3) := by decide +kernel
theorem dX7_jar_37 : decode cX7_jar 37 = .ok (.if_icmp .gt 19, 3) := by decide +kernel
theorem dX7_jar_40 : decode cX7_jar 40 = .ok (.iload 4, 2) := by decide +kernel
theorem dX7_jar_42 : decode cX7_jar 42 = .ok (.sipush 365, 3) := by decide +kernel
theorem dX7_jar_45 : decode cX7_jar 45 = .ok (.if_icmp .gt 11, 3) := by decide +kernel
theorem dX7_jar_48 : decode cX7_jar 48 = .ok (.iload 5, 2) := by decide +kernel
theorem dX7_jar_50 : decode cX7_jar 50 = .ok (.sipush 366, 3) := by decide +kernel
theorem dX7_jar_53 : decode cX7_jar 53 = .ok (.if_icmp .le 8, 3) := by decide +kernel
theorem dX7_jar_56 : decode cX7_jar 56 = .ok (.bipush (-6), 2) := by decide +kernel
theorem dX7_jar_58 : decode cX7_jar 58 = .ok (.goto 4, 3) := by decide +kernel
theorem dX7_jar_61 : decode cX7_jar 61 = .ok (.iconst 0, 1) := by decide +kernel
theorem dX7_jar_62 : decode cX7_jar 62 = .ok (.istore 6, 2) := by decide +kernel
theorem dX7_jar_64 : decode cX7_jar 64 = .ok (.iload 6, 2) := by decide +kernel
theorem dX7_jar_66 : decode cX7_jar 66 = .ok (.ifCond .eq 10, 3) := by decide +kernel
theorem dX7_jar_69 : decode cX7_jar 69 = .ok (.aload_n 0, 1) := by decide +kernel
theorem dX7_jar_70 : decode cX7_jar 70 = .ok (.iload 6, 2) := by decide +kernel
theorem dX7_jar_72 : decode cX7_jar 72 = .ok (.invokevirtual 81, 3) := by decide +kernel
theorem dX7_jar_75 : decode cX7_jar 75 = .ok (.ireturn, 1) := by decide +kernel
theorem dX7_jar_76 : decode cX7_jar 76 = .ok (.aload_n 0, 1) := by decide +kernel
theorem dX7_jar_77 : decode cX7_jar 77 = .ok (.getfield 13, 3) := by decide +kernel
theorem dX7_jar_80 : decode cX7_jar 80 = .ok (.iload_n 1, 1) := by decide +kernel
theorem dX7_jar_81 : decode cX7_jar 81 = .ok (.iload_n 2, 1) := by decide +kernel
theorem dX7_jar_82 : decode cX7_jar 82 = .ok (.iastore, 1) := by decide +kernel
theorem dX7_jar_83 : decode cX7_jar 83 = .ok (.aload_n 0, 1) := by decide +kernel
theorem dX7_jar_84 : decode cX7_jar 84 = .ok (.getfield 16, 3) := by decide +kernel
theorem dX7_jar_87 : decode cX7_jar 87 = .ok (.iload_n 1, 1) := by decide +kernel
theorem dX7_jar_88 : decode cX7_jar 88 = .ok (.iload_n 3, 1) := by decide +kernel
theorem dX7_jar_89 : decode cX7_jar 89 = .ok (.iastore, 1) := by decide +kernel
theorem dX7_jar_90 : decode cX7_jar 90 = .ok (.aload_n 0, 1) := by decide +kernel
theorem dX7_jar_91 : decode cX7_jar 91 = .ok (.getfield 19, 3) := by decide +kernel
theorem dX7_jar_94 : decode cX7_jar 94 = .ok (.iload_n 1, 1) := by decide +kernel
theorem dX7_jar_95 : decode cX7_jar 95 = .ok (.iload 4, 2) := by decide +kernel
theorem dX7_jar_97 : decode cX7_jar 97 = .ok (.iastore, 1) := by decide +kernel
theorem dX7_jar_98 : decode cX7_jar 98 = .ok (.aload_n 0, 1) := by decide +kernel
theorem dX7_jar_99 : decode cX7_jar 99 = .ok (.getfield 22, 3) := by decide +kernel
theorem dX7_jar_102 : decode cX7_jar 102 = .ok (.iload_n 1, 1) := by decide +kernel
theorem dX7_jar_103 : decode cX7_jar 103 = .ok (.iload 5, 2) := by decide +kernel
theorem dX7_jar_105 : decode cX7_jar 105 = .ok (.iastore, 1) := by decide +kernel
theorem dX7_jar_106 : decode cX7_jar 106 = .ok (.aload_n 0, 1) := by decide +kernel
theorem dX7_jar_107 : decode cX7_jar 107 = .ok (.getfield 37, 3) := by decide +kernel
theorem dX7_jar_110 : decode cX7_jar 110 = .ok (.iload_n 1, 1) := by decide +kernel
theorem dX7_jar_111 : decode cX7_jar 111 = .ok (.iconst 0, 1) := by decide +kernel
theorem dX7_jar_112 : decode cX7_jar 112 = .ok (.bastore, 1) := by decide +kernel
theorem dX7_jar_113 : decode cX7_jar 113 = .ok (.iconst 1, 1) := by decide +kernel
theorem dX7_jar_114 : decode cX7_jar 114 = .ok (.ireturn, 1) := by decide +kernel
set_option maxRecDepth 20000 in
theorem dX7_pour_0 : decode cX7_pour 0 = .ok (.iload_n 1, 1) := by decide +kernel
end
section
theorem dX7_pour_1 : decode cX7_pour 1 = .ok (.invokestatic 77, 3) := by decide +kernel
theorem dX7_pour_4 : decode cX7_pour 4 = .ok (.ifCond .ne 9, 3) := by decide +kernel
theorem dX7_pour_7 : decode cX7_pour 7 = .ok (.aload_n 0, 1) := by decide +kernel
theorem dX7_pour_8 : decode cX7_pour 8 = .ok (.iconst (-1), 1) := by decide +kernel
theorem dX7_pour_9 : decode cX7_pour 9 = .ok (.invokevirtual 81, 3) := by decide +kernel
theorem dX7_pour_12 : decode cX7_pour 12 = .ok (.ireturn, 1) := by decide +kernel
theorem dX7_pour_13 : decode cX7_pour 13 = .ok (.aload_n 0, 1) := by decide +kernel
theorem dX7_pour_14 : decode cX7_pour 14 = .ok (.getfield 25, 3) := by decide +kernel
theorem dX7_pour_17 : decode cX7_pour 17 = .ok (.iload_n 1, 1) := by decide +kernel
theorem dX7_pour_18 : decode cX7_pour 18 = .ok (.iaload, 1) := by decide +kernel
theorem dX7_pour_19 : decode cX7_pour 19 = .ok (.iconst 1, 1) := by decide +kernel
theorem dX7_pour_20 : decode cX7_pour 20 = .ok (.if_icmp .ne 7, 3) := by decide +kernel
theorem dX7_pour_23 : decode cX7_pour 23 = .ok (.iconst 1, 1) := by decide +kernel
theorem dX7_pour_24 : decode cX7_pour 24 = .ok (.goto 4, 3) := by decide +kernel
theorem dX7_pour_27 : decode cX7_pour 27 = .ok (.iconst 0, 1) := by decide +kernel
theorem dX7_pour_28 : decode cX7_pour 28 = .ok (.iload_n 2, 1) := by decide +kernel
theorem dX7_pour_29 : decode cX7_pour 29 = .ok (.if_icmp .ne 5, 3) := by decide +kernel
theorem dX7_pour_32 : decode cX7_pour 32 = .ok (.iconst 0, 1) := by decide +kernel
theorem dX7_pour_33 : decode cX7_pour 33 = .ok (.ireturn, 1) := by decide +kernel
theorem dX7_pour_34 : decode cX7_pour 34 = .ok (.aload_n 0, 1) := by decide +kernel
theorem dX7_pour_35 : decode cX7_pour 35 = .ok (.getfield 25, 3) := by decide +kernel
theorem dX7_pour_38 : decode cX7_pour 38 = .ok (.iload_n 1, 1) := by decide +kernel
theorem dX7_pour_39 : decode cX7_pour 39 = .ok (.iload_n 2, 1) := by decide +kernel
theorem dX7_pour_40 : decode cX7_pour 40 = .ok (.ifCond .eq 7, 3) := by decide +kernel
theorem dX7_pour_43 : decode cX7_pour 43 = .ok (.iconst 1, 1) := by decide +kernel
theorem dX7_pour_44 : decode cX7_pour 44 = .ok (.goto 4, 3) := by decide +kernel
theorem dX7_pour_47 : decode cX7_pour 47 = .ok (.iconst 0, 1) := by decide +kernel
theorem dX7_pour_48 : decode cX7_pour 48 = .ok (.iastore, 1) := by decide +kernel
theorem dX7_pour_49 : decode cX7_pour 49 = .ok (.aload_n 0, 1) := by decide +kernel
theorem dX7_pour_50 : decode cX7_pour 50 = .ok (.getfield 37, 3) := by decide +kernel
theorem dX7_pour_53 : decode cX7_pour 53 = .ok (.iload_n 1, 1) := by decide +kernel
theorem dX7_pour_54 : decode cX7_pour 54 = .ok (.iconst 0, 1) := by decide +kernel
theorem dX7_pour_55 : decode cX7_pour 55 = .ok (.bastore, 1) := by decide +kernel
theorem dX7_pour_56 : decode cX7_pour 56 = .ok (.iconst 1, 1) := by decide +kernel
theorem dX7_pour_57 : decode cX7_pour 57 = .ok (.ireturn, 1) := by decide +kernel
theorem dX7_changes_0 : decode cX7_changes 0 = .ok (.aload_n 0, 1) := by decide +kernel
theorem dX7_changes_1 : decode cX7_changes 1 = .ok (.getfield 31, 3) := by decide +kernel
theorem dX7_changes_4 : decode cX7_changes 4 = .ok (.iload_n 1, 1) := by decide +kernel
theorem dX7_changes_5 : decode cX7_changes 5 = .ok (.iaload, 1) := by decide +kernel
theorem dX7_changes_6 : decode cX7_changes 6 = .ok (.istore_n 3, 1) := by decide +kernel
theorem dX7_changes_7 : decode cX7_changes 7 = .ok (.aload_n 0, 1) := by decide +kernel
theorem dX7_changes_8 : decode cX7_changes 8 = .ok (.getfield 31, 3) := by decide +kernel
theorem dX7_changes_11 : decode cX7_changes 11 = .ok (.iload_n 1, 1) := by decide +kernel
theorem dX7_changes_12 : decode cX7_changes 12 = .ok (.aload_n 0, 1) := by decide +kernel
theorem dX7_changes_13 : decode cX7_changes 13 = .ok (.getfield 31, 3) := by decide +kernel
theorem dX7_changes_16 : decode cX7_changes 16 = .ok (.iload_n 2, 1) := by decide +kernel
theorem dX7_changes_17 : decode cX7_changes 17 = .ok (.iaload, 1) := by decide +kernel
theorem dX7_changes_18 : decode cX7_changes 18 = .ok (.iastore, 1) := by decide +kernel
theorem dX7_changes_19 : decode cX7_changes 19 = .ok (.aload_n 0, 1) := by decide +kernel
theorem dX7_changes_20 : decode cX7_changes 20 = .ok (.getfield 31, 3) := by decide +kernel
theorem dX7_changes_23 : decode cX7_changes 23 = .ok (.iload_n 2, 1) := by decide +kernel
theorem dX7_changes_24 : decode cX7_changes 24 = .ok (.iload_n 3, 1) := by decide +kernel
theorem dX7_changes_25 : decode cX7_changes 25 = .ok (.iastore, 1) := by decide +kernel
theorem dX7_changes_26 : decode cX7_changes 26 = .ok (.return_, 1) := by decide +kernel
set_option maxRecDepth 20000 in
theorem dX7_draws_0 : decode cX7_draws 0 = .ok (.aload_n 0, 1) := by decide +kernel
theorem dX7_draws_1 : decode cX7_draws 1 = .ok (.getfield 37, 3) := by decide +kernel
theorem dX7_draws_4 : decode cX7_draws 4 = .ok (.iload_n 1, 1) := by decide +kernel
theorem dX7_draws_5 : decode cX7_draws 5 = .ok (.baload, 1) := by decide +kernel
theorem dX7_draws_6 : decode cX7_draws 6 = .ok (.ifCond .eq 4, 3) := by decide +kernel
theorem dX7_draws_9 : decode cX7_draws 9 = .ok (.return_, 1) := by decide +kernel
theorem dX7_draws_10 : decode cX7_draws 10 = .ok (.aload_n 0, 1) := by decide +kernel
theorem dX7_draws_11 : decode cX7_draws 11 = .ok (.getfield 37, 3) := by decide +kernel
theorem dX7_draws_14 : decode cX7_draws 14 = .ok (.iload_n 1, 1) := by decide +kernel
theorem dX7_draws_15 : decode cX7_draws 15 = .ok (.iconst 1, 1) := by decide +kernel
theorem dX7_draws_16 : decode cX7_draws 16 = .ok (.bastore, 1) := by decide +kernel
theorem dX7_draws_17 : decode cX7_draws 17 = .ok (.aload_n 0, 1) := by decide +kernel
theorem dX7_draws_18 : decode cX7_draws 18 = .ok (.aload_n 0, 1) := by decide +kernel
theorem dX7_draws_19 : decode cX7_draws 19 = .ok (.getfield 13, 3) := by decide +kernel
theorem dX7_draws_22 : decode cX7_draws 22 = .ok (.iload_n 1, 1) := by decide +kernel
theorem dX7_draws_23 : decode cX7_draws 23 = .ok (.iaload, 1) := by decide +kernel
theorem dX7_draws_24 : decode cX7_draws 24 = .ok (.putfield 71, 3) := by decide +kernel
theorem dX7_draws_27 : decode cX7_draws 27 = .ok (.iconst 0, 1) := by decide +kernel
theorem dX7_draws_28 : decode cX7_draws 28 = .ok (.istore_n 2, 1) := by decide +kernel
theorem dX7_draws_29 : decode cX7_draws 29 = .ok (.iload_n 2, 1) := by decide +kernel
theorem dX7_draws_30 : decode cX7_draws 30 = .ok (.sipush 366, 3) := by decide +kernel
theorem dX7_draws_33 : decode cX7_draws 33 = .ok (.if_icmp .ge 16, 3) := by decide +kernel
theorem dX7_draws_36 : decode cX7_draws 36 = .ok (.aload_n 0, 1) := by decide +kernel
theorem dX7_draws_37 : decode cX7_draws 37 = .ok (.getfield 31, 3) := by decide +kernel
theorem dX7_draws_40 : decode cX7_draws 40 = .ok (.iload_n 2, 1) := by decide +kernel
theorem dX7_draws_41 : decode cX7_draws 41 = .ok (.iload_n 2, 1) := by decide +kernel
theorem dX7_draws_42 : decode cX7_draws 42 = .ok (.iastore, 1) := by decide +kernel
theorem dX7_draws_43 : decode cX7_draws 43 = .ok (.iinc 2 1, 3) := by decide +kernel
theorem dX7_draws_46 : decode cX7_draws 46 = .ok (.goto (-17), 3) := by decide +kernel
theorem dX7_draws_49 : decode cX7_draws 49 = .ok (.iconst 0, 1) := by decide +kernel
theorem dX7_draws_50 : decode cX7_draws 50 = .ok (.istore_n 2, 1) := by decide +kernel
theorem dX7_draws_51 : decode cX7_draws 51 = .ok (.iload_n 2, 1) := by decide +kernel
theorem dX7_draws_52 : decode cX7_draws 52 = .ok (.aload_n 0, 1) := by decide +kernel
theorem dX7_draws_53 : decode cX7_draws 53 = .ok (.getfield 16, 3) := by decide +kernel
theorem dX7_draws_56 : decode cX7_draws 56 = .ok (.iload_n 1, 1) := by decide +kernel
theorem dX7_draws_57 : decode cX7_draws 57 = .ok (.iaload, 1) := by decide +kernel
theorem dX7_draws_58 : decode cX7_draws 58 = .ok (.if_icmp .ge 72, 3) := by decide +kernel
theorem dX7_draws_61 : decode cX7_draws 61 = .ok (.aload_n 0, 1) := by decide +kernel
theorem dX7_draws_62 : decode cX7_draws 62 = .ok (.sipush 366, 3) := by decide +kernel
theorem dX7_draws_65 : decode cX7_draws 65 = .ok (.invokevirtual 85, 3) := by decide +kernel
theorem dX7_draws_68 : decode cX7_draws 68 = .ok (.istore_n 3, 1) := by decide +kernel
theorem dX7_draws_69 : decode cX7_draws 69 = .ok (.iload_n 3, 1) := by decide +kernel
theorem dX7_draws_70 : decode cX7_draws 70 = .ok (.aload_n 0, 1) := by decide +kernel
theorem dX7_draws_71 : decode cX7_draws 71 = .ok (.iconst 2, 1) := by decide +kernel
theorem dX7_draws_72 : decode cX7_draws 72 = .ok (.aload_n 0, 1) := by decide +kernel
theorem dX7_draws_73 : decode cX7_draws 73 = .ok (.getfield 19, 3) := by decide +kernel
theorem dX7_draws_76 : decode cX7_draws 76 = .ok (.iload_n 1, 1) := by decide +kernel
theorem dX7_draws_77 : decode cX7_draws 77 = .ok (.iaload, 1) := by decide +kernel
theorem dX7_draws_78 : decode cX7_draws 78 = .ok (.imul, 1) := by decide +kernel
theorem dX7_draws_79 : decode cX7_draws 79 = .ok (.iconst 1, 1) := by decide +kernel
theorem dX7_draws_80 : decode cX7_draws 80 = .ok (.iadd, 1) := by decide +kernel
theorem dX7_draws_81 : decode cX7_draws 81 = .ok (.invokevirtual 85, 3) := by decide +kernel
theorem dX7_draws_84 : decode cX7_draws 84 = .ok (.iadd, 1) := by decide +kernel
theorem dX7_draws_85 : decode cX7_draws 85 = .ok (.aload_n 0, 1) := by decide +kernel
theorem dX7_draws_86 : decode cX7_draws 86 = .ok (.getfield 19, 3) := by decide +kernel
theorem dX7_draws_89 : decode cX7_draws 89 = .ok (.iload_n 1, 1) := by decide +kernel
theorem dX7_draws_90 : decode cX7_draws 90 = .ok (.iaload, 1) := by decide +kernel
theorem dX7_draws_91 : decode cX7_draws 91 = .ok (.isub, 1) := by decide +kernel
theorem dX7_draws_92 : decode cX7_draws 92 = .ok (.istore 4, 2) := by decide +kernel
theorem dX7_draws_94 : decode cX7_draws 94 = .ok (.aload_n 0, 1) := by decide +kernel
theorem dX7_draws_95 : decode cX7_draws 95 = .ok (.iload_n 3, 1) := by decide +kernel
theorem dX7_draws_96 : decode cX7_draws 96 = .ok (.iload 4, 2) := by decide +kernel
theorem dX7_draws_98 : decode cX7_draws 98 = .ok (.ifCond .ge 7, 3) := by decide +kernel
theorem dX7_draws_101 : decode cX7_draws 101 = .ok (.iconst 0, 1) := by decide +kernel
theorem dX7_draws_102 : decode cX7_draws 102 = .ok (.goto 19, 3) := by decide +kernel
theorem dX7_draws_105 : decode cX7_draws 105 = .ok (.iload 4, 2) := by decide +kernel
theorem dX7_draws_107 : decode cX7_draws 107 = .ok (.sipush 366, 3) := by decide +kernel
theorem dX7_draws_110 : decode cX7_draws 110 = .ok (.if_icmp .lt 9, 3) := by decide +kernel
theorem dX7_draws_113 : decode cX7_draws 113 = .ok (.sipush 365, 3) := by decide +kernel
theorem dX7_draws_116 : decode cX7_draws 116 = .ok (.goto 5, 3) := by decide +kernel
theorem dX7_draws_119 : decode cX7_draws 119 = .ok (.iload 4, 2) := by decide +kernel
theorem dX7_draws_121 : decode cX7_draws 121 = .ok (.invokevirtual 88, 3) := by decide +kernel
theorem dX7_draws_124 : decode cX7_draws 124 = .ok (.iinc 2 1, 3) := by decide +kernel
theorem dX7_draws_127 : decode cX7_draws 127 = .ok (.goto (-76), 3) := by decide +kernel
theorem dX7_draws_130 : decode cX7_draws 130 = .ok (.iconst 0, 1) := by decide +kernel
theorem dX7_draws_131 : decode cX7_draws 131 = .ok (.istore_n 2, 1) := by decide +kernel
theorem dX7_draws_132 : decode cX7_draws 132 = .ok (.iload_n 2, 1) := by decide +kernel
theorem dX7_draws_133 : decode cX7_draws 133 = .ok (.sipush 183, 3) := by decide +kernel
theorem dX7_draws_136 : decode cX7_draws 136 = .ok (.if_icmp .ge 29, 3) := by decide +kernel
theorem dX7_draws_139 : decode cX7_draws 139 = .ok (.aload_n 0, 1) := by decide +kernel
theorem dX7_draws_140 : decode cX7_draws 140 = .ok (.getfield 25, 3) := by decide +kernel
theorem dX7_draws_143 : decode cX7_draws 143 = .ok (.iload_n 1, 1) := by decide +kernel
theorem dX7_draws_144 : decode cX7_draws 144 = .ok (.iaload, 1) := by decide +kernel
theorem dX7_draws_145 : decode cX7_draws 145 = .ok (.iconst 1, 1) := by decide +kernel
theorem dX7_draws_146 : decode cX7_draws 146 = .ok (.if_icmp .ne 19, 3) := by decide +kernel
theorem dX7_draws_149 : decode cX7_draws 149 = .ok (.aload_n 0, 1) := by decide +kernel
theorem dX7_draws_150 : decode cX7_draws 150 = .ok (.iload_n 2, 1) := by decide +kernel
theorem dX7_draws_151 : decode cX7_draws 151 = .ok (.sipush 365, 3) := by decide +kernel
theorem dX7_draws_154 : decode cX7_draws 154 = .ok (.iload_n 2, 1) := by decide +kernel
theorem dX7_draws_155 : decode cX7_draws 155 = .ok (.isub, 1) := by decide +kernel
theorem dX7_draws_156 : decode cX7_draws 156 = .ok (.invokevirtual 88, 3) := by decide +kernel
theorem dX7_draws_159 : decode cX7_draws 159 = .ok (.iinc 2 1, 3) := by decide +kernel
theorem dX7_draws_162 : decode cX7_draws 162 = .ok (.goto (-30), 3) := by decide +kernel
theorem dX7_draws_165 : decode cX7_draws 165 = .ok (.iconst 1, 1) := by decide +kernel
theorem dX7_draws_166 : decode cX7_draws 166 = .ok (.istore_n 2, 1) := by decide +kernel
theorem dX7_draws_167 : decode cX7_draws 167 = .ok (.iload_n 2, 1) := by decide +kernel
theorem dX7_draws_168 : decode cX7_draws 168 = .ok (.sipush 366, 3) := by decide +kernel
theorem dX7_draws_171 : decode cX7_draws 171 = .ok (.if_icmp .gt 100, 3) := by decide +kernel
theorem dX7_draws_174 : decode cX7_draws 174 = .ok (.sipush 366, 3) := by decide +kernel
theorem dX7_draws_177 : decode cX7_draws 177 = .ok (.iload_n 2, 1) := by decide +kernel
theorem dX7_draws_178 : decode cX7_draws 178 = .ok (.isub, 1) := by decide +kernel
theorem dX7_draws_179 : decode cX7_draws 179 = .ok (.iconst 1, 1) := by decide +kernel
theorem dX7_draws_180 : decode cX7_draws 180 = .ok (.iadd, 1) := by decide +kernel
theorem dX7_draws_181 : decode cX7_draws 181 = .ok (.istore_n 3, 1) := by decide +kernel
theorem dX7_draws_182 : decode cX7_draws 182 = .ok (.iload_n 3, 1) := by decide +kernel
theorem dX7_draws_183 : decode cX7_draws 183 = .ok (.iconst 1, 1) := by decide +kernel
theorem dX7_draws_184 : decode cX7_draws 184 = .ok (.isub, 1) := by decide +kernel
theorem dX7_draws_185 : decode cX7_draws 185 = .ok (.aload_n 0, 1) := by decide +kernel
theorem dX7_draws_186 : decode cX7_draws 186 = .ok (.aload_n 0, 1) := by decide +kernel
theorem dX7_draws_187 : decode cX7_draws 187 = .ok (.getfield 22, 3) := by decide +kernel
theorem dX7_draws_190 : decode cX7_draws 190 = .ok (.iload_n 1, 1) := by decide +kernel
theorem dX7_draws_191 : decode cX7_draws 191 = .ok (.iaload, 1) := by decide +kernel
theorem dX7_draws_192 : decode cX7_draws 192 = .ok (.iload_n 3, 1) := by decide +kernel
theorem dX7_draws_193 : decode cX7_draws 193 = .ok (.if_icmp .ge 12, 3) := by decide +kernel
theorem dX7_draws_196 : decode cX7_draws 196 = .ok (.aload_n 0, 1) := by decide +kernel
theorem dX7_draws_197 : decode cX7_draws 197 = .ok (.getfield 22, 3) := by decide +kernel
theorem dX7_draws_200 : decode cX7_draws 200 = .ok (.iload_n 1, 1) := by decide +kernel
theorem dX7_draws_201 : decode cX7_draws 201 = .ok (.iaload, 1) := by decide +kernel
theorem dX7_draws_202 : decode cX7_draws 202 = .ok (.goto 4, 3) := by decide +kernel
theorem dX7_draws_205 : decode cX7_draws 205 = .ok (.iload_n 3, 1) := by decide +kernel
theorem dX7_draws_206 : decode cX7_draws 206 = .ok (.invokevirtual 85, 3) := by decide +kernel
theorem dX7_draws_209 : decode cX7_draws 209 = .ok (.isub, 1) := by decide +kernel
theorem dX7_draws_210 : decode cX7_draws 210 = .ok (.istore 4, 2) := by decide +kernel
theorem dX7_draws_212 : decode cX7_draws 212 = .ok (.aload_n 0, 1) := by decide +kernel
theorem dX7_draws_213 : decode cX7_draws 213 = .ok (.getfield 28, 3) := by decide +kernel
theorem dX7_draws_216 : decode cX7_draws 216 = .ok (.sipush 366, 3) := by decide +kernel
theorem dX7_draws_219 : decode cX7_draws 219 = .ok (.iload_n 1, 1) := by decide +kernel
theorem dX7_draws_220 : decode cX7_draws 220 = .ok (.imul, 1) := by decide +kernel
theorem dX7_draws_221 : decode cX7_draws 221 = .ok (.aload_n 0, 1) := by decide +kernel
theorem dX7_draws_222 : decode cX7_draws 222 = .ok (.getfield 31, 3) := by decide +kernel
theorem dX7_draws_225 : decode cX7_draws 225 = .ok (.iload 4, 2) := by decide +kernel
theorem dX7_draws_227 : decode cX7_draws 227 = .ok (.iaload, 1) := by decide +kernel
theorem dX7_draws_228 : decode cX7_draws 228 = .ok (.iadd, 1) := by decide +kernel
theorem dX7_draws_229 : decode cX7_draws 229 = .ok (.iload_n 2, 1) := by decide +kernel
theorem dX7_draws_230 : decode cX7_draws 230 = .ok (.iastore, 1) := by decide +kernel
theorem dX7_draws_231 : decode cX7_draws 231 = .ok (.iload 4, 2) := by decide +kernel
theorem dX7_draws_233 : decode cX7_draws 233 = .ok (.istore 5, 2) := by decide +kernel
theorem dX7_draws_235 : decode cX7_draws 235 = .ok (.iload 5, 2) := by decide +kernel
theorem dX7_draws_237 : decode cX7_draws 237 = .ok (.iload_n 3, 1) := by decide +kernel
theorem dX7_draws_238 : decode cX7_draws 238 = .ok (.iconst 1, 1) := by decide +kernel
theorem dX7_draws_239 : decode cX7_draws 239 = .ok (.isub, 1) := by decide +kernel
theorem dX7_draws_240 : decode cX7_draws 240 = .ok (.if_icmp .ge 25, 3) := by decide +kernel
theorem dX7_draws_243 : decode cX7_draws 243 = .ok (.aload_n 0, 1) := by decide +kernel
theorem dX7_draws_244 : decode cX7_draws 244 = .ok (.getfield 31, 3) := by decide +kernel
theorem dX7_draws_247 : decode cX7_draws 247 = .ok (.iload 5, 2) := by decide +kernel
theorem dX7_draws_249 : decode cX7_draws 249 = .ok (.aload_n 0, 1) := by decide +kernel
theorem dX7_draws_250 : decode cX7_draws 250 = .ok (.getfield 31, 3) := by decide +kernel
theorem dX7_draws_253 : decode cX7_draws 253 = .ok (.iload 5, 2) := by decide +kernel
theorem dX7_draws_255 : decode cX7_draws 255 = .ok (.iconst 1, 1) := by decide +kernel
theorem dX7_draws_256 : decode cX7_draws 256 = .ok (.iadd, 1) := by decide +kernel
theorem dX7_draws_257 : decode cX7_draws 257 = .ok (.iaload, 1) := by decide +kernel
theorem dX7_draws_258 : decode cX7_draws 258 = .ok (.iastore, 1) := by decide +kernel
theorem dX7_draws_259 : decode cX7_draws 259 = .ok (.iinc 5 1, 3) := by decide +kernel
theorem dX7_draws_262 : decode cX7_draws 262 = .ok (.goto (-27), 3) := by decide +kernel
theorem dX7_draws_265 : decode cX7_draws 265 = .ok (.iinc 2 1, 3) := by decide +kernel
theorem dX7_draws_268 : decode cX7_draws 268 = .ok (.goto (-101), 3) := by decide +kernel
theorem dX7_draws_271 : decode cX7_draws 271 = .ok (.return_, 1) := by decide +kernel
set_option maxRecDepth 20000 in
theorem dX7_numberOf_0 : decode cX7_numberOf 0 = .ok (.aload_n 0, 1) := by decide +kernel
theorem dX7_numberOf_1 : decode cX7_numberOf 1 = .ok (.iload_n 1, 1) := by decide +kernel
theorem dX7_numberOf_2 : decode cX7_numberOf 2 = .ok (.invokevirtual 92, 3) := by decide +kernel
theorem dX7_numberOf_5 : decode cX7_numberOf 5 = .ok (.aload_n 0, 1) := by decide +kernel
theorem dX7_numberOf_6 : decode cX7_numberOf 6 = .ok (.getfield 28, 3) := by decide +kernel
theorem dX7_numberOf_9 : decode cX7_numberOf 9 = .ok (.sipush 366, 3) := by decide +kernel
theorem dX7_numberOf_12 : decode cX7_numberOf 12 = .ok (.iload_n 1, 1) := by decide +kernel
theorem dX7_numberOf_13 : decode cX7_numberOf 13 = .ok (.imul, 1) := by decide +kernel
theorem dX7_numberOf_14 : decode cX7_numberOf 14 = .ok (.iload_n 2, 1) := by decide +kernel
theorem dX7_numberOf_15 : decode cX7_numberOf 15 = .ok (.iadd, 1) := by decide +kernel
theorem dX7_numberOf_16 : decode cX7_numberOf 16 = .ok (.iaload, 1) := by decide +kernel
theorem dX7_numberOf_17 : decode cX7_numberOf 17 = .ok (.ireturn, 1) := by decide +kernel
set_option maxRecDepth 20000 in
theorem dX7_number_0 : decode cX7_number 0 = .ok (.iload_n 1, 1) := by decide +kernel
theorem dX7_number_1 : decode cX7_number 1 = .ok (.invokestatic 77, 3) := by decide +kernel
theorem dX7_number_4 : decode cX7_number 4 = .ok (.ifCond .eq 23, 3) := by decide +kernel
theorem dX7_number_7 : decode cX7_number 7 = .ok (.iload_n 2, 1) := by decide +kernel
theorem dX7_number_8 : decode cX7_number 8 = .ok (.iconst 0, 1) := by decide +kernel
theorem dX7_number_9 : decode cX7_number 9 = .ok (.sipush 365, 3) := by decide +kernel
theorem dX7_number_12 : decode cX7_number 12 = .ok (.invokestatic 96, 3) := by decide +kernel
theorem dX7_number_15 : decode cX7_number 15 = .ok (.ifCond .eq 12, 3) := by decide +kernel
theorem dX7_number_18 : decode cX7_number 18 = .ok (.aload_n 0, 1) := by decide +kernel
theorem dX7_number_19 : decode cX7_number 19 = .ok (.iload_n 1, 1) := by decide +kernel
theorem dX7_number_20 : decode cX7_number 20 = .ok (.iload_n 2, 1) := by decide +kernel
theorem dX7_number_21 : decode cX7_number 21 = .ok (.invokevirtual 100, 3) := by decide +kernel
theorem dX7_number_24 : decode cX7_number 24 = .ok (.goto 8, 3) := by decide +kernel
theorem dX7_number_27 : decode cX7_number 27 = .ok (.aload_n 0, 1) := by decide +kernel
theorem dX7_number_28 : decode cX7_number 28 = .ok (.iconst (-1), 1) := by decide +kernel
theorem dX7_number_29 : decode cX7_number 29 = .ok (.invokevirtual 81, 3) := by decide +kernel
theorem dX7_number_32 : decode cX7_number 32 = .ok (.ireturn, 1) := by decide +kernel
set_option maxRecDepth 20000 in
theorem dX7_dayOf_0 : decode cX7_dayOf 0 = .ok (.iload_n 1, 1) := by decide +kernel
theorem dX7_dayOf_1 : decode cX7_dayOf 1 = .ok (.invokestatic 77, 3) := by decide +kernel
theorem dX7_dayOf_4 : decode cX7_dayOf 4 = .ok (.ifCond .ne 9, 3) := by decide +kernel
theorem dX7_dayOf_7 : decode cX7_dayOf 7 = .ok (.aload_n 0, 1) := by decide +kernel
theorem dX7_dayOf_8 : decode cX7_dayOf 8 = .ok (.iconst (-1), 1) := by decide +kernel
theorem dX7_dayOf_9 : decode cX7_dayOf 9 = .ok (.invokevirtual 81, 3) := by decide +kernel
theorem dX7_dayOf_12 : decode cX7_dayOf 12 = .ok (.ireturn, 1) := by decide +kernel
theorem dX7_dayOf_13 : decode cX7_dayOf 13 = .ok (.iload_n 2, 1) := by decide +kernel
theorem dX7_dayOf_14 : decode cX7_dayOf 14 = .ok (.iconst 1, 1) := by decide +kernel
theorem dX7_dayOf_15 : decode cX7_dayOf 15 = .ok (.sipush 366, 3) := by decide +kernel
theorem dX7_dayOf_18 : decode cX7_dayOf 18 = .ok (.invokestatic 104, 3) := by decide +kernel
theorem dX7_dayOf_21 : decode cX7_dayOf 21 = .ok (.istore_n 3, 1) := by decide +kernel
theorem dX7_dayOf_22 : decode cX7_dayOf 22 = .ok (.iload_n 3, 1) := by decide +kernel
theorem dX7_dayOf_23 : decode cX7_dayOf 23 = .ok (.ifCond .eq 9, 3) := by decide +kernel
theorem dX7_dayOf_26 : decode cX7_dayOf 26 = .ok (.aload_n 0, 1) := by decide +kernel
theorem dX7_dayOf_27 : decode cX7_dayOf 27 = .ok (.iload_n 3, 1) := by decide +kernel
theorem dX7_dayOf_28 : decode cX7_dayOf 28 = .ok (.invokevirtual 81, 3) := by decide +kernel
theorem dX7_dayOf_31 : decode cX7_dayOf 31 = .ok (.ireturn, 1) := by decide +kernel
theorem dX7_dayOf_32 : decode cX7_dayOf 32 = .ok (.bipush (-9), 2) := by decide +kernel
theorem dX7_dayOf_34 : decode cX7_dayOf 34 = .ok (.istore 4, 2) := by decide +kernel
theorem dX7_dayOf_36 : decode cX7_dayOf 36 = .ok (.iconst 0, 1) := by decide +kernel
theorem dX7_dayOf_37 : decode cX7_dayOf 37 = .ok (.istore 5, 2) := by decide +kernel
theorem dX7_dayOf_39 : decode cX7_dayOf 39 = .ok (.iload 5, 2) := by decide +kernel
theorem dX7_dayOf_41 : decode cX7_dayOf 41 = .ok (.sipush 366, 3) := by decide +kernel
theorem dX7_dayOf_44 : decode cX7_dayOf 44 = .ok (.if_icmp .ge 29, 3) := by decide +kernel
theorem dX7_dayOf_47 : decode cX7_dayOf 47 = .ok (.aload_n 0, 1) := by decide +kernel
theorem dX7_dayOf_48 : decode cX7_dayOf 48 = .ok (.iload_n 1, 1) := by decide +kernel
theorem dX7_dayOf_49 : decode cX7_dayOf 49 = .ok (.iload 5, 2) := by decide +kernel
theorem dX7_dayOf_51 : decode cX7_dayOf 51 = .ok (.invokevirtual 100, 3) := by decide +kernel
theorem dX7_dayOf_54 : decode cX7_dayOf 54 = .ok (.iload_n 2, 1) := by decide +kernel
theorem dX7_dayOf_55 : decode cX7_dayOf 55 = .ok (.if_icmp .ne 8, 3) := by decide +kernel
theorem dX7_dayOf_58 : decode cX7_dayOf 58 = .ok (.iload 5, 2) := by decide +kernel
theorem dX7_dayOf_60 : decode cX7_dayOf 60 = .ok (.goto 5, 3) := by decide +kernel
theorem dX7_dayOf_63 : decode cX7_dayOf 63 = .ok (.iload 4, 2) := by decide +kernel
theorem dX7_dayOf_65 : decode cX7_dayOf 65 = .ok (.istore 4, 2) := by decide +kernel
theorem dX7_dayOf_67 : decode cX7_dayOf 67 = .ok (.iinc 5 1, 3) := by decide +kernel
theorem dX7_dayOf_70 : decode cX7_dayOf 70 = .ok (.goto (-31), 3) := by decide +kernel
theorem dX7_dayOf_73 : decode cX7_dayOf 73 = .ok (.iload 4, 2) := by decide +kernel
theorem dX7_dayOf_75 : decode cX7_dayOf 75 = .ok (.ireturn, 1) := by decide +kernel
theorem dX7_firstOf_0 : decode cX7_firstOf 0 = .ok (.iconst 0, 1) := by decide +kernel
theorem dX7_firstOf_1 : decode cX7_firstOf 1 = .ok (.istore_n 2, 1) := by decide +kernel
theorem dX7_firstOf_2 : decode cX7_firstOf 2 = .ok (.iconst 0, 1) := by decide +kernel
theorem dX7_firstOf_3 : decode cX7_firstOf 3 = .ok (.istore_n 3, 1) := by decide +kernel
theorem dX7_firstOf_4 : decode cX7_firstOf 4 = .ok (.iload_n 3, 1) := by decide +kernel
theorem dX7_firstOf_5 : decode cX7_firstOf 5 = .ok (.iload_n 1, 1) := by decide +kernel
theorem dX7_firstOf_6 : decode cX7_firstOf 6 = .ok (.if_icmp .ge 18, 3) := by decide +kernel
theorem dX7_firstOf_9 : decode cX7_firstOf 9 = .ok (.iload_n 2, 1) := by decide +kernel
theorem dX7_firstOf_10 : decode cX7_firstOf 10 = .ok (.aload_n 0, 1) := by decide +kernel
theorem dX7_firstOf_11 : decode cX7_firstOf 11 = .ok (.getfield 34, 3) := by decide +kernel
theorem dX7_firstOf_14 : decode cX7_firstOf 14 = .ok (.iload_n 3, 1) := by decide +kernel
theorem dX7_firstOf_15 : decode cX7_firstOf 15 = .ok (.iaload, 1) := by decide +kernel
theorem dX7_firstOf_16 : decode cX7_firstOf 16 = .ok (.iadd, 1) := by decide +kernel
theorem dX7_firstOf_17 : decode cX7_firstOf 17 = .ok (.istore_n 2, 1) := by decide +kernel
theorem dX7_firstOf_18 : decode cX7_firstOf 18 = .ok (.iinc 3 1, 3) := by decide +kernel
theorem dX7_firstOf_21 : decode cX7_firstOf 21 = .ok (.goto (-17), 3) := by decide +kernel
theorem dX7_firstOf_24 : decode cX7_firstOf 24 = .ok (.iload_n 2, 1) := by decide +kernel
theorem dX7_firstOf_25 : decode cX7_firstOf 25 = .ok (.ireturn, 1) := by decide +kernel
set_option maxRecDepth 20000 in
theorem dX7_monthOf_0 : decode cX7_monthOf 0 = .ok (.iconst 0, 1) := by decide +kernel
theorem dX7_monthOf_1 : decode cX7_monthOf 1 = .ok (.istore_n 2, 1) := by decide +kernel
theorem dX7_monthOf_2 : decode cX7_monthOf 2 = .ok (.aload_n 0, 1) := by decide +kernel
theorem dX7_monthOf_3 : decode cX7_monthOf 3 = .ok (.iload_n 2, 1) := by decide +kernel
theorem dX7_monthOf_4 : decode cX7_monthOf 4 = .ok (.iconst 1, 1) := by decide +kernel
theorem dX7_monthOf_5 : decode cX7_monthOf 5 = .ok (.iadd, 1) := by decide +kernel
theorem dX7_monthOf_6 : decode cX7_monthOf 6 = .ok (.invokevirtual 108, 3) := by decide +kernel
theorem dX7_monthOf_9 : decode cX7_monthOf 9 = .ok (.iload_n 1, 1) := by decide +kernel
theorem dX7_monthOf_10 : decode cX7_monthOf 10 = .ok (.if_icmp .gt 9, 3) := by decide +kernel
theorem dX7_monthOf_13 : decode cX7_monthOf 13 = .ok (.iinc 2 1, 3) := by decide +kernel
theorem dX7_monthOf_16 : decode cX7_monthOf 16 = .ok (.goto (-14), 3) := by decide +kernel
theorem dX7_monthOf_19 : decode cX7_monthOf 19 = .ok (.iload_n 2, 1) := by decide +kernel
theorem dX7_monthOf_20 : decode cX7_monthOf 20 = .ok (.ireturn, 1) := by decide +kernel
set_option maxRecDepth 20000 in
theorem dX7_sumOf_0 : decode cX7_sumOf 0 = .ok (.lconst 0, 1) := by decide +kernel
theorem dX7_sumOf_1 : decode cX7_sumOf 1 = .ok (.lstore_n 3, 1) := by decide +kernel
theorem dX7_sumOf_2 : decode cX7_sumOf 2 = .ok (.aload_n 0, 1) := by decide +kernel
theorem dX7_sumOf_3 : decode cX7_sumOf 3 = .ok (.iload_n 2, 1) := by decide +kernel
theorem dX7_sumOf_4 : decode cX7_sumOf 4 = .ok (.invokevirtual 108, 3) := by decide +kernel
theorem dX7_sumOf_7 : decode cX7_sumOf 7 = .ok (.istore 5, 2) := by decide +kernel
theorem dX7_sumOf_9 : decode cX7_sumOf 9 = .ok (.iload 5, 2) := by decide +kernel
theorem dX7_sumOf_11 : decode cX7_sumOf 11 = .ok (.aload_n 0, 1) := by decide +kernel
theorem dX7_sumOf_12 : decode cX7_sumOf 12 = .ok (.iload_n 2, 1) := by decide +kernel
theorem dX7_sumOf_13 : decode cX7_sumOf 13 = .ok (.invokevirtual 108, 3) := by decide +kernel
theorem dX7_sumOf_16 : decode cX7_sumOf 16 = .ok (.aload_n 0, 1) := by decide +kernel
theorem dX7_sumOf_17 : decode cX7_sumOf 17 = .ok (.getfield 34, 3) := by decide +kernel
theorem dX7_sumOf_20 : decode cX7_sumOf 20 = .ok (.iload_n 2, 1) := by decide +kernel
theorem dX7_sumOf_21 : decode cX7_sumOf 21 = .ok (.iaload, 1) := by decide +kernel
theorem dX7_sumOf_22 : decode cX7_sumOf 22 = .ok (.iadd, 1) := by decide +kernel
theorem dX7_sumOf_23 : decode cX7_sumOf 23 = .ok (.if_icmp .ge 20, 3) := by decide +kernel
theorem dX7_sumOf_26 : decode cX7_sumOf 26 = .ok (.lload_n 3, 1) := by decide +kernel
theorem dX7_sumOf_27 : decode cX7_sumOf 27 = .ok (.aload_n 0, 1) := by decide +kernel
theorem dX7_sumOf_28 : decode cX7_sumOf 28 = .ok (.iload_n 1, 1) := by decide +kernel
theorem dX7_sumOf_29 : decode cX7_sumOf 29 = .ok (.iload 5, 2) := by decide +kernel
theorem dX7_sumOf_31 : decode cX7_sumOf 31 = .ok (.invokevirtual 100, 3) := by decide +kernel
theorem dX7_sumOf_34 : decode cX7_sumOf 34 = .ok (.i2l, 1) := by decide +kernel
theorem dX7_sumOf_35 : decode cX7_sumOf 35 = .ok (.ladd, 1) := by decide +kernel
theorem dX7_sumOf_36 : decode cX7_sumOf 36 = .ok (.lstore_n 3, 1) := by decide +kernel
theorem dX7_sumOf_37 : decode cX7_sumOf 37 = .ok (.iinc 5 1, 3) := by decide +kernel
theorem dX7_sumOf_40 : decode cX7_sumOf 40 = .ok (.goto (-31), 3) := by decide +kernel
theorem dX7_sumOf_43 : decode cX7_sumOf 43 = .ok (.lload_n 3, 1) := by decide +kernel
theorem dX7_sumOf_44 : decode cX7_sumOf 44 = .ok (.lreturn, 1) := by decide +kernel
theorem dX7_lessens_0 : decode cX7_lessens 0 = .ok (.lload_n 1, 1) := by decide +kernel
theorem dX7_lessens_1 : decode cX7_lessens 1 = .ok (.lconst 0, 1) := by decide +kernel
theorem dX7_lessens_2 : decode cX7_lessens 2 = .ok (.lcmp, 1) := by decide +kernel
theorem dX7_lessens_3 : decode cX7_lessens 3 = .ok (.ifCond .ge 8, 3) := by decide +kernel
theorem dX7_lessens_6 : decode cX7_lessens 6 = .ok (.lload_n 1, 1) := by decide +kernel
theorem dX7_lessens_7 : decode cX7_lessens 7 = .ok (.lneg, 1) := by decide +kernel
theorem dX7_lessens_8 : decode cX7_lessens 8 = .ok (.goto 4, 3) := by decide +kernel
theorem dX7_lessens_11 : decode cX7_lessens 11 = .ok (.lload_n 1, 1) := by decide +kernel
theorem dX7_lessens_12 : decode cX7_lessens 12 = .ok (.lstore 5, 2) := by decide +kernel
theorem dX7_lessens_14 : decode cX7_lessens 14 = .ok (.lload_n 3, 1) := by decide +kernel
theorem dX7_lessens_15 : decode cX7_lessens 15 = .ok (.lconst 0, 1) := by decide +kernel
theorem dX7_lessens_16 : decode cX7_lessens 16 = .ok (.lcmp, 1) := by decide +kernel
theorem dX7_lessens_17 : decode cX7_lessens 17 = .ok (.ifCond .ge 8, 3) := by decide +kernel
theorem dX7_lessens_20 : decode cX7_lessens 20 = .ok (.lload_n 3, 1) := by decide +kernel
theorem dX7_lessens_21 : decode cX7_lessens 21 = .ok (.lneg, 1) := by decide +kernel
theorem dX7_lessens_22 : decode cX7_lessens 22 = .ok (.goto 4, 3) := by decide +kernel
theorem dX7_lessens_25 : decode cX7_lessens 25 = .ok (.lload_n 3, 1) := by decide +kernel
theorem dX7_lessens_26 : decode cX7_lessens 26 = .ok (.lstore 7, 2) := by decide +kernel
theorem dX7_lessens_28 : decode cX7_lessens 28 = .ok (.lload 7, 2) := by decide +kernel
theorem dX7_lessens_30 : decode cX7_lessens 30 = .ok (.lconst 0, 1) := by decide +kernel
theorem dX7_lessens_31 : decode cX7_lessens 31 = .ok (.lcmp, 1) := by decide +kernel
theorem dX7_lessens_32 : decode cX7_lessens 32 = .ok (.ifCond .eq 21, 3) := by decide +kernel
theorem dX7_lessens_35 : decode cX7_lessens 35 = .ok (.lload 5, 2) := by decide +kernel
theorem dX7_lessens_37 : decode cX7_lessens 37 = .ok (.lload 7, 2) := by decide +kernel
theorem dX7_lessens_39 : decode cX7_lessens 39 = .ok (.lrem, 1) := by decide +kernel
theorem dX7_lessens_40 : decode cX7_lessens 40 = .ok (.lstore 9, 2) := by decide +kernel
theorem dX7_lessens_42 : decode cX7_lessens 42 = .ok (.lload 7, 2) := by decide +kernel
theorem dX7_lessens_44 : decode cX7_lessens 44 = .ok (.lstore 5, 2) := by decide +kernel
theorem dX7_lessens_46 : decode cX7_lessens 46 = .ok (.lload 9, 2) := by decide +kernel
theorem dX7_lessens_48 : decode cX7_lessens 48 = .ok (.lstore 7, 2) := by decide +kernel
theorem dX7_lessens_50 : decode cX7_lessens 50 = .ok (.goto (-22), 3) := by decide +kernel
theorem dX7_lessens_53 : decode cX7_lessens 53 = .ok (.aload_n 0, 1) := by decide +kernel
theorem dX7_lessens_54 : decode cX7_lessens 54 = .ok (.lload_n 3, 1) := by decide +kernel
theorem dX7_lessens_55 : decode cX7_lessens 55 = .ok (.lconst 0, 1) := by decide +kernel
theorem dX7_lessens_56 : decode cX7_lessens 56 = .ok (.lcmp, 1) := by decide +kernel
theorem dX7_lessens_57 : decode cX7_lessens 57 = .ok (.ifCond .ge 11, 3) := by decide +kernel
theorem dX7_lessens_60 : decode cX7_lessens 60 = .ok (.lload_n 1, 1) := by decide +kernel
theorem dX7_lessens_61 : decode cX7_lessens 61 = .ok (.lneg, 1) := by decide +kernel
theorem dX7_lessens_62 : decode cX7_lessens 62 = .ok (.lload 5, 2) := by decide +kernel
theorem dX7_lessens_64 : decode cX7_lessens 64 = .ok (.ldiv, 1) := by decide +kernel
theorem dX7_lessens_65 : decode cX7_lessens 65 = .ok (.goto 7, 3) := by decide +kernel
theorem dX7_lessens_68 : decode cX7_lessens 68 = .ok (.lload_n 1, 1) := by decide +kernel
theorem dX7_lessens_69 : decode cX7_lessens 69 = .ok (.lload 5, 2) := by decide +kernel
theorem dX7_lessens_71 : decode cX7_lessens 71 = .ok (.ldiv, 1) := by decide +kernel
theorem dX7_lessens_72 : decode cX7_lessens 72 = .ok (.putfield 111, 3) := by decide +kernel
theorem dX7_lessens_75 : decode cX7_lessens 75 = .ok (.aload_n 0, 1) := by decide +kernel
theorem dX7_lessens_76 : decode cX7_lessens 76 = .ok (.lload_n 3, 1) := by decide +kernel
theorem dX7_lessens_77 : decode cX7_lessens 77 = .ok (.lconst 0, 1) := by decide +kernel
theorem dX7_lessens_78 : decode cX7_lessens 78 = .ok (.lcmp, 1) := by decide +kernel
theorem dX7_lessens_79 : decode cX7_lessens 79 = .ok (.ifCond .ge 11, 3) := by decide +kernel
theorem dX7_lessens_82 : decode cX7_lessens 82 = .ok (.lload_n 3, 1) := by decide +kernel
theorem dX7_lessens_83 : decode cX7_lessens 83 = .ok (.lneg, 1) := by decide +kernel
theorem dX7_lessens_84 : decode cX7_lessens 84 = .ok (.lload 5, 2) := by decide +kernel
theorem dX7_lessens_86 : decode cX7_lessens 86 = .ok (.ldiv, 1) := by decide +kernel
theorem dX7_lessens_87 : decode cX7_lessens 87 = .ok (.goto 7, 3) := by decide +kernel
theorem dX7_lessens_90 : decode cX7_lessens 90 = .ok (.lload_n 3, 1) := by decide +kernel
theorem dX7_lessens_91 : decode cX7_lessens 91 = .ok (.lload 5, 2) := by decide +kernel
theorem dX7_lessens_93 : decode cX7_lessens 93 = .ok (.ldiv, 1) := by decide +kernel
theorem dX7_lessens_94 : decode cX7_lessens 94 = .ok (.putfield 115, 3) := by decide +kernel
theorem dX7_lessens_97 : decode cX7_lessens 97 = .ok (.return_, 1) := by decide +kernel
theorem dX7_told_0 : decode cX7_told 0 = .ok (.iload_n 1, 1) := by decide +kernel
theorem dX7_told_1 : decode cX7_told 1 = .ok (.ifCond .ne 10, 3) := by decide +kernel
theorem dX7_told_4 : decode cX7_told 4 = .ok (.aload_n 0, 1) := by decide +kernel
theorem dX7_told_5 : decode cX7_told 5 = .ok (.getfield 111, 3) := by decide +kernel
theorem dX7_told_8 : decode cX7_told 8 = .ok (.goto 7, 3) := by decide +kernel
theorem dX7_told_11 : decode cX7_told 11 = .ok (.aload_n 0, 1) := by decide +kernel
theorem dX7_told_12 : decode cX7_told 12 = .ok (.getfield 115, 3) := by decide +kernel
theorem dX7_told_15 : decode cX7_told 15 = .ok (.lreturn, 1) := by decide +kernel
theorem dX7_isPart_0 : decode cX7_isPart 0 = .ok (.iload_n 0, 1) := by decide +kernel
theorem dX7_isPart_1 : decode cX7_isPart 1 = .ok (.ifCond .eq 8, 3) := by decide +kernel
theorem dX7_isPart_4 : decode cX7_isPart 4 = .ok (.iload_n 0, 1) := by decide +kernel
theorem dX7_isPart_5 : decode cX7_isPart 5 = .ok (.iconst 1, 1) := by decide +kernel
theorem dX7_isPart_6 : decode cX7_isPart 6 = .ok (.if_icmp .ne 7, 3) := by decide +kernel
theorem dX7_isPart_9 : decode cX7_isPart 9 = .ok (.iconst 1, 1) := by decide +kernel
theorem dX7_isPart_10 : decode cX7_isPart 10 = .ok (.goto 4, 3) := by decide +kernel
theorem dX7_isPart_13 : decode cX7_isPart 13 = .ok (.iconst 0, 1) := by decide +kernel
theorem dX7_isPart_14 : decode cX7_isPart 14 = .ok (.ireturn, 1) := by decide +kernel
theorem dX7_isMonth_0 : decode cX7_isMonth 0 = .ok (.iload_n 0, 1) := by decide +kernel
theorem dX7_isMonth_1 : decode cX7_isMonth 1 = .ok (.ifCond .lt 13, 3) := by decide +kernel
theorem dX7_isMonth_4 : decode cX7_isMonth 4 = .ok (.iload_n 0, 1) := by decide +kernel
theorem dX7_isMonth_5 : decode cX7_isMonth 5 = .ok (.bipush 12, 2) := by decide +kernel
theorem dX7_isMonth_7 : decode cX7_isMonth 7 = .ok (.if_icmp .ge 7, 3) := by decide +kernel
theorem dX7_isMonth_10 : decode cX7_isMonth 10 = .ok (.iconst 1, 1) := by decide +kernel
theorem dX7_isMonth_11 : decode cX7_isMonth 11 = .ok (.goto 4, 3) := by decide +kernel
theorem dX7_isMonth_14 : decode cX7_isMonth 14 = .ok (.iconst 0, 1) := by decide +kernel
theorem dX7_isMonth_15 : decode cX7_isMonth 15 = .ok (.ireturn, 1) := by decide +kernel
set_option maxRecDepth 20000 in
theorem dX7_mean_0 : decode cX7_mean 0 = .ok (.iload_n 1, 1) := by decide +kernel
theorem dX7_mean_1 : decode cX7_mean 1 = .ok (.invokestatic 77, 3) := by decide +kernel
theorem dX7_mean_4 : decode cX7_mean 4 = .ok (.ifCond .eq 10, 3) := by decide +kernel
theorem dX7_mean_7 : decode cX7_mean 7 = .ok (.iload_n 2, 1) := by decide +kernel
theorem dX7_mean_8 : decode cX7_mean 8 = .ok (.invokestatic 118, 3) := by decide +kernel
theorem dX7_mean_11 : decode cX7_mean 11 = .ok (.ifCond .ne 9, 3) := by decide +kernel
theorem dX7_mean_14 : decode cX7_mean 14 = .ok (.aload_n 0, 1) := by decide +kernel
theorem dX7_mean_15 : decode cX7_mean 15 = .ok (.iconst (-1), 1) := by decide +kernel
theorem dX7_mean_16 : decode cX7_mean 16 = .ok (.invokevirtual 121, 3) := by decide +kernel
theorem dX7_mean_19 : decode cX7_mean 19 = .ok (.lreturn, 1) := by decide +kernel
theorem dX7_mean_20 : decode cX7_mean 20 = .ok (.iload_n 3, 1) := by decide +kernel
theorem dX7_mean_21 : decode cX7_mean 21 = .ok (.invokestatic 125, 3) := by decide +kernel
theorem dX7_mean_24 : decode cX7_mean 24 = .ok (.ifCond .ne 10, 3) := by decide +kernel
theorem dX7_mean_27 : decode cX7_mean 27 = .ok (.aload_n 0, 1) := by decide +kernel
theorem dX7_mean_28 : decode cX7_mean 28 = .ok (.bipush (-2), 2) := by decide +kernel
theorem dX7_mean_30 : decode cX7_mean 30 = .ok (.invokevirtual 121, 3) := by decide +kernel
theorem dX7_mean_33 : decode cX7_mean 33 = .ok (.lreturn, 1) := by decide +kernel
theorem dX7_mean_34 : decode cX7_mean 34 = .ok (.aload_n 0, 1) := by decide +kernel
theorem dX7_mean_35 : decode cX7_mean 35 = .ok (.aload_n 0, 1) := by decide +kernel
theorem dX7_mean_36 : decode cX7_mean 36 = .ok (.iload_n 1, 1) := by decide +kernel
theorem dX7_mean_37 : decode cX7_mean 37 = .ok (.iload_n 2, 1) := by decide +kernel
theorem dX7_mean_38 : decode cX7_mean 38 = .ok (.invokevirtual 128, 3) := by decide +kernel
theorem dX7_mean_41 : decode cX7_mean 41 = .ok (.aload_n 0, 1) := by decide +kernel
theorem dX7_mean_42 : decode cX7_mean 42 = .ok (.getfield 34, 3) := by decide +kernel
theorem dX7_mean_45 : decode cX7_mean 45 = .ok (.iload_n 2, 1) := by decide +kernel
theorem dX7_mean_46 : decode cX7_mean 46 = .ok (.iaload, 1) := by decide +kernel
theorem dX7_mean_47 : decode cX7_mean 47 = .ok (.i2l, 1) := by decide +kernel
theorem dX7_mean_48 : decode cX7_mean 48 = .ok (.invokevirtual 132, 3) := by decide +kernel
theorem dX7_mean_51 : decode cX7_mean 51 = .ok (.aload_n 0, 1) := by decide +kernel
theorem dX7_mean_52 : decode cX7_mean 52 = .ok (.iload_n 3, 1) := by decide +kernel
theorem dX7_mean_53 : decode cX7_mean 53 = .ok (.invokevirtual 136, 3) := by decide +kernel
theorem dX7_mean_56 : decode cX7_mean 56 = .ok (.lreturn, 1) := by decide +kernel
set_option maxRecDepth 20000 in
theorem dX7_lean_0 : decode cX7_lean 0 = .ok (.iload_n 1, 1) := by decide +kernel
theorem dX7_lean_1 : decode cX7_lean 1 = .ok (.invokestatic 77, 3) := by decide +kernel
theorem dX7_lean_4 : decode cX7_lean 4 = .ok (.ifCond .ne 9, 3) := by decide +kernel
theorem dX7_lean_7 : decode cX7_lean 7 = .ok (.aload_n 0, 1) := by decide +kernel
theorem dX7_lean_8 : decode cX7_lean 8 = .ok (.iconst (-1), 1) := by decide +kernel
theorem dX7_lean_9 : decode cX7_lean 9 = .ok (.invokevirtual 121, 3) := by decide +kernel
theorem dX7_lean_12 : decode cX7_lean 12 = .ok (.lreturn, 1) := by decide +kernel
theorem dX7_lean_13 : decode cX7_lean 13 = .ok (.lconst 0, 1) := by decide +kernel
theorem dX7_lean_14 : decode cX7_lean 14 = .ok (.lstore_n 2, 1) := by decide +kernel
theorem dX7_lean_15 : decode cX7_lean 15 = .ok (.iconst 0, 1) := by decide +kernel
theorem dX7_lean_16 : decode cX7_lean 16 = .ok (.istore 4, 2) := by decide +kernel
theorem dX7_lean_18 : decode cX7_lean 18 = .ok (.iload 4, 2) := by decide +kernel
theorem dX7_lean_20 : decode cX7_lean 20 = .ok (.sipush 366, 3) := by decide +kernel
theorem dX7_lean_23 : decode cX7_lean 23 = .ok (.if_icmp .ge 40, 3) := by decide +kernel
theorem dX7_lean_26 : decode cX7_lean 26 = .ok (.lload_n 2, 1) := by decide +kernel
theorem dX7_lean_27 : decode cX7_lean 27 = .ok (.ldc2_w 139, 3) := by decide +kernel
theorem dX7_lean_30 : decode cX7_lean 30 = .ok (.iload 4, 2) := by decide +kernel
theorem dX7_lean_32 : decode cX7_lean 32 = .ok (.i2l, 1) := by decide +kernel
theorem dX7_lean_33 : decode cX7_lean 33 = .ok (.lmul, 1) := by decide +kernel
theorem dX7_lean_34 : decode cX7_lean 34 = .ok (.ldc2_w 141, 3) := by decide +kernel
theorem dX7_lean_37 : decode cX7_lean 37 = .ok (.lsub, 1) := by decide +kernel
theorem dX7_lean_38 : decode cX7_lean 38 = .ok (.ldc2_w 139, 3) := by decide +kernel
theorem dX7_lean_41 : decode cX7_lean 41 = .ok (.aload_n 0, 1) := by decide +kernel
theorem dX7_lean_42 : decode cX7_lean 42 = .ok (.iload_n 1, 1) := by decide +kernel
theorem dX7_lean_43 : decode cX7_lean 43 = .ok (.iload 4, 2) := by decide +kernel
theorem dX7_lean_45 : decode cX7_lean 45 = .ok (.invokevirtual 100, 3) := by decide +kernel
theorem dX7_lean_48 : decode cX7_lean 48 = .ok (.i2l, 1) := by decide +kernel
theorem dX7_lean_49 : decode cX7_lean 49 = .ok (.lmul, 1) := by decide +kernel
theorem dX7_lean_50 : decode cX7_lean 50 = .ok (.ldc2_w 143, 3) := by decide +kernel
theorem dX7_lean_53 : decode cX7_lean 53 = .ok (.lsub, 1) := by decide +kernel
theorem dX7_lean_54 : decode cX7_lean 54 = .ok (.lmul, 1) := by decide +kernel
theorem dX7_lean_55 : decode cX7_lean 55 = .ok (.ladd, 1) := by decide +kernel
theorem dX7_lean_56 : decode cX7_lean 56 = .ok (.lstore_n 2, 1) := by decide +kernel
theorem dX7_lean_57 : decode cX7_lean 57 = .ok (.iinc 4 1, 3) := by decide +kernel
theorem dX7_lean_60 : decode cX7_lean 60 = .ok (.goto (-42), 3) := by decide +kernel
theorem dX7_lean_63 : decode cX7_lean 63 = .ok (.lload_n 2, 1) := by decide +kernel
theorem dX7_lean_64 : decode cX7_lean 64 = .ok (.lreturn, 1) := by decide +kernel
set_option maxRecDepth 20000 in
theorem dX7_offOf_0 : decode cX7_offOf 0 = .ok (.ldc2_w 139, 3) := by decide +kernel
theorem dX7_offOf_3 : decode cX7_offOf 3 = .ok (.aload_n 0, 1) := by decide +kernel
theorem dX7_offOf_4 : decode cX7_offOf 4 = .ok (.iload_n 1, 1) := by decide +kernel
theorem dX7_offOf_5 : decode cX7_offOf 5 = .ok (.iload_n 2, 1) := by decide +kernel
theorem dX7_offOf_6 : decode cX7_offOf 6 = .ok (.invokevirtual 128, 3) := by decide +kernel
theorem dX7_offOf_9 : decode cX7_offOf 9 = .ok (.lmul, 1) := by decide +kernel
theorem dX7_offOf_10 : decode cX7_offOf 10 = .ok (.ldc2_w 143, 3) := by decide +kernel
theorem dX7_offOf_13 : decode cX7_offOf 13 = .ok (.aload_n 0, 1) := by decide +kernel
theorem dX7_offOf_14 : decode cX7_offOf 14 = .ok (.getfield 34, 3) := by decide +kernel
theorem dX7_offOf_17 : decode cX7_offOf 17 = .ok (.iload_n 2, 1) := by decide +kernel
theorem dX7_offOf_18 : decode cX7_offOf 18 = .ok (.iaload, 1) := by decide +kernel
theorem dX7_offOf_19 : decode cX7_offOf 19 = .ok (.i2l, 1) := by decide +kernel
theorem dX7_offOf_20 : decode cX7_offOf 20 = .ok (.lmul, 1) := by decide +kernel
theorem dX7_offOf_21 : decode cX7_offOf 21 = .ok (.lsub, 1) := by decide +kernel
theorem dX7_offOf_22 : decode cX7_offOf 22 = .ok (.lstore_n 3, 1) := by decide +kernel
theorem dX7_offOf_23 : decode cX7_offOf 23 = .ok (.lload_n 3, 1) := by decide +kernel
theorem dX7_offOf_24 : decode cX7_offOf 24 = .ok (.lconst 0, 1) := by decide +kernel
theorem dX7_offOf_25 : decode cX7_offOf 25 = .ok (.lcmp, 1) := by decide +kernel
theorem dX7_offOf_26 : decode cX7_offOf 26 = .ok (.ifCond .ge 8, 3) := by decide +kernel
theorem dX7_offOf_29 : decode cX7_offOf 29 = .ok (.lload_n 3, 1) := by decide +kernel
theorem dX7_offOf_30 : decode cX7_offOf 30 = .ok (.lneg, 1) := by decide +kernel
theorem dX7_offOf_31 : decode cX7_offOf 31 = .ok (.goto 4, 3) := by decide +kernel
theorem dX7_offOf_34 : decode cX7_offOf 34 = .ok (.lload_n 3, 1) := by decide +kernel
theorem dX7_offOf_35 : decode cX7_offOf 35 = .ok (.lreturn, 1) := by decide +kernel
set_option maxRecDepth 20000 in
theorem dX7_worst_0 : decode cX7_worst 0 = .ok (.iload_n 1, 1) := by decide +kernel
theorem dX7_worst_1 : decode cX7_worst 1 = .ok (.invokestatic 77, 3) := by decide +kernel
theorem dX7_worst_4 : decode cX7_worst 4 = .ok (.ifCond .ne 9, 3) := by decide +kernel
theorem dX7_worst_7 : decode cX7_worst 7 = .ok (.aload_n 0, 1) := by decide +kernel
theorem dX7_worst_8 : decode cX7_worst 8 = .ok (.iconst (-1), 1) := by decide +kernel
theorem dX7_worst_9 : decode cX7_worst 9 = .ok (.invokevirtual 81, 3) := by decide +kernel
theorem dX7_worst_12 : decode cX7_worst 12 = .ok (.ireturn, 1) := by decide +kernel
theorem dX7_worst_13 : decode cX7_worst 13 = .ok (.iconst 0, 1) := by decide +kernel
theorem dX7_worst_14 : decode cX7_worst 14 = .ok (.istore_n 2, 1) := by decide +kernel
theorem dX7_worst_15 : decode cX7_worst 15 = .ok (.iconst 1, 1) := by decide +kernel
theorem dX7_worst_16 : decode cX7_worst 16 = .ok (.istore_n 3, 1) := by decide +kernel
theorem dX7_worst_17 : decode cX7_worst 17 = .ok (.iload_n 3, 1) := by decide +kernel
theorem dX7_worst_18 : decode cX7_worst 18 = .ok (.bipush 12, 2) := by decide +kernel
theorem dX7_worst_20 : decode cX7_worst 20 = .ok (.if_icmp .ge 47, 3) := by decide +kernel
theorem dX7_worst_23 : decode cX7_worst 23 = .ok (.aload_n 0, 1) := by decide +kernel
theorem dX7_worst_24 : decode cX7_worst 24 = .ok (.iload_n 1, 1) := by decide +kernel
theorem dX7_worst_25 : decode cX7_worst 25 = .ok (.iload_n 3, 1) := by decide +kernel
theorem dX7_worst_26 : decode cX7_worst 26 = .ok (.invokevirtual 145, 3) := by decide +kernel
theorem dX7_worst_29 : decode cX7_worst 29 = .ok (.aload_n 0, 1) := by decide +kernel
theorem dX7_worst_30 : decode cX7_worst 30 = .ok (.getfield 34, 3) := by decide +kernel
theorem dX7_worst_33 : decode cX7_worst 33 = .ok (.iload_n 2, 1) := by decide +kernel
theorem dX7_worst_34 : decode cX7_worst 34 = .ok (.iaload, 1) := by decide +kernel
theorem dX7_worst_35 : decode cX7_worst 35 = .ok (.i2l, 1) := by decide +kernel
theorem dX7_worst_36 : decode cX7_worst 36 = .ok (.lmul, 1) := by decide +kernel
theorem dX7_worst_37 : decode cX7_worst 37 = .ok (.aload_n 0, 1) := by decide +kernel
theorem dX7_worst_38 : decode cX7_worst 38 = .ok (.iload_n 1, 1) := by decide +kernel
theorem dX7_worst_39 : decode cX7_worst 39 = .ok (.iload_n 2, 1) := by decide +kernel
theorem dX7_worst_40 : decode cX7_worst 40 = .ok (.invokevirtual 145, 3) := by decide +kernel
theorem dX7_worst_43 : decode cX7_worst 43 = .ok (.aload_n 0, 1) := by decide +kernel
theorem dX7_worst_44 : decode cX7_worst 44 = .ok (.getfield 34, 3) := by decide +kernel
theorem dX7_worst_47 : decode cX7_worst 47 = .ok (.iload_n 3, 1) := by decide +kernel
theorem dX7_worst_48 : decode cX7_worst 48 = .ok (.iaload, 1) := by decide +kernel
theorem dX7_worst_49 : decode cX7_worst 49 = .ok (.i2l, 1) := by decide +kernel
theorem dX7_worst_50 : decode cX7_worst 50 = .ok (.lmul, 1) := by decide +kernel
theorem dX7_worst_51 : decode cX7_worst 51 = .ok (.lcmp, 1) := by decide +kernel
theorem dX7_worst_52 : decode cX7_worst 52 = .ok (.ifCond .le 7, 3) := by decide +kernel
theorem dX7_worst_55 : decode cX7_worst 55 = .ok (.iload_n 3, 1) := by decide +kernel
theorem dX7_worst_56 : decode cX7_worst 56 = .ok (.goto 4, 3) := by decide +kernel
theorem dX7_worst_59 : decode cX7_worst 59 = .ok (.iload_n 2, 1) := by decide +kernel
theorem dX7_worst_60 : decode cX7_worst 60 = .ok (.istore_n 2, 1) := by decide +kernel
theorem dX7_worst_61 : decode cX7_worst 61 = .ok (.iinc 3 1, 3) := by decide +kernel
theorem dX7_worst_64 : decode cX7_worst 64 = .ok (.goto (-47), 3) := by decide +kernel
theorem dX7_worst_67 : decode cX7_worst 67 = .ok (.iload_n 2, 1) := by decide +kernel
theorem dX7_worst_68 : decode cX7_worst 68 = .ok (.ireturn, 1) := by decide +kernel
set_option maxRecDepth 20000 in
theorem dX7_turned_0 : decode cX7_turned 0 = .ok (.iload_n 1, 1) := by decide +kernel
theorem dX7_turned_1 : decode cX7_turned 1 = .ok (.invokestatic 77, 3) := by decide +kernel
theorem dX7_turned_4 : decode cX7_turned 4 = .ok (.ifCond .ne 9, 3) := by decide +kernel
theorem dX7_turned_7 : decode cX7_turned 7 = .ok (.aload_n 0, 1) := by decide +kernel
theorem dX7_turned_8 : decode cX7_turned 8 = .ok (.iconst (-1), 1) := by decide +kernel
theorem dX7_turned_9 : decode cX7_turned 9 = .ok (.invokevirtual 81, 3) := by decide +kernel
theorem dX7_turned_12 : decode cX7_turned 12 = .ok (.ireturn, 1) := by decide +kernel
theorem dX7_turned_13 : decode cX7_turned 13 = .ok (.iconst 0, 1) := by decide +kernel
theorem dX7_turned_14 : decode cX7_turned 14 = .ok (.istore_n 2, 1) := by decide +kernel
theorem dX7_turned_15 : decode cX7_turned 15 = .ok (.iconst 0, 1) := by decide +kernel
theorem dX7_turned_16 : decode cX7_turned 16 = .ok (.istore_n 3, 1) := by decide +kernel
theorem dX7_turned_17 : decode cX7_turned 17 = .ok (.iload_n 3, 1) := by decide +kernel
theorem dX7_turned_18 : decode cX7_turned 18 = .ok (.sipush 366, 3) := by decide +kernel
theorem dX7_turned_21 : decode cX7_turned 21 = .ok (.if_icmp .ge 48, 3) := by decide +kernel
theorem dX7_turned_24 : decode cX7_turned 24 = .ok (.iconst 0, 1) := by decide +kernel
theorem dX7_turned_25 : decode cX7_turned 25 = .ok (.istore 4, 2) := by decide +kernel
theorem dX7_turned_27 : decode cX7_turned 27 = .ok (.iload 4, 2) := by decide +kernel
theorem dX7_turned_29 : decode cX7_turned 29 = .ok (.iload_n 3, 1) := by decide +kernel
theorem dX7_turned_30 : decode cX7_turned 30 = .ok (.if_icmp .ge 33, 3) := by decide +kernel
theorem dX7_turned_33 : decode cX7_turned 33 = .ok (.iload_n 2, 1) := by decide +kernel
theorem dX7_turned_34 : decode cX7_turned 34 = .ok (.aload_n 0, 1) := by decide +kernel
theorem dX7_turned_35 : decode cX7_turned 35 = .ok (.iload_n 1, 1) := by decide +kernel
theorem dX7_turned_36 : decode cX7_turned 36 = .ok (.iload_n 3, 1) := by decide +kernel
theorem dX7_turned_37 : decode cX7_turned 37 = .ok (.invokevirtual 100, 3) := by decide +kernel
theorem dX7_turned_40 : decode cX7_turned 40 = .ok (.aload_n 0, 1) := by decide +kernel
theorem dX7_turned_41 : decode cX7_turned 41 = .ok (.iload_n 1, 1) := by decide +kernel
theorem dX7_turned_42 : decode cX7_turned 42 = .ok (.iload 4, 2) := by decide +kernel
theorem dX7_turned_44 : decode cX7_turned 44 = .ok (.invokevirtual 100, 3) := by decide +kernel
theorem dX7_turned_47 : decode cX7_turned 47 = .ok (.if_icmp .ge 7, 3) := by decide +kernel
theorem dX7_turned_50 : decode cX7_turned 50 = .ok (.iconst 1, 1) := by decide +kernel
theorem dX7_turned_51 : decode cX7_turned 51 = .ok (.goto 4, 3) := by decide +kernel
theorem dX7_turned_54 : decode cX7_turned 54 = .ok (.iconst 0, 1) := by decide +kernel
theorem dX7_turned_55 : decode cX7_turned 55 = .ok (.iadd, 1) := by decide +kernel
theorem dX7_turned_56 : decode cX7_turned 56 = .ok (.istore_n 2, 1) := by decide +kernel
theorem dX7_turned_57 : decode cX7_turned 57 = .ok (.iinc 4 1, 3) := by decide +kernel
theorem dX7_turned_60 : decode cX7_turned 60 = .ok (.goto (-33), 3) := by decide +kernel
theorem dX7_turned_63 : decode cX7_turned 63 = .ok (.iinc 3 1, 3) := by decide +kernel
theorem dX7_turned_66 : decode cX7_turned 66 = .ok (.goto (-49), 3) := by decide +kernel
theorem dX7_turned_69 : decode cX7_turned 69 = .ok (.iload_n 2, 1) := by decide +kernel
theorem dX7_turned_70 : decode cX7_turned 70 = .ok (.ireturn, 1) := by decide +kernel
set_option maxRecDepth 20000 in
theorem dX7_feed_0 : decode cX7_feed 0 = .ok (.iload_n 1, 1) := by decide +kernel
theorem dX7_feed_1 : decode cX7_feed 1 = .ok (.iconst 1, 1) := by decide +kernel
theorem dX7_feed_2 : decode cX7_feed 2 = .ok (.bipush 8, 2) := by decide +kernel
theorem dX7_feed_4 : decode cX7_feed 4 = .ok (.invokestatic 104, 3) := by decide +kernel
theorem dX7_feed_7 : decode cX7_feed 7 = .ok (.istore 4, 2) := by decide +kernel
theorem dX7_feed_9 : decode cX7_feed 9 = .ok (.iload 4, 2) := by decide +kernel
theorem dX7_feed_11 : decode cX7_feed 11 = .ok (.ifCond .ne 18, 3) := by decide +kernel
theorem dX7_feed_14 : decode cX7_feed 14 = .ok (.aload_n 0, 1) := by decide +kernel
theorem dX7_feed_15 : decode cX7_feed 15 = .ok (.getfield 148, 3) := by decide +kernel
theorem dX7_feed_18 : decode cX7_feed 18 = .ok (.iload_n 1, 1) := by decide +kernel
theorem dX7_feed_19 : decode cX7_feed 19 = .ok (.iadd, 1) := by decide +kernel
theorem dX7_feed_20 : decode cX7_feed 20 = .ok (.bipush 14, 2) := by decide +kernel
theorem dX7_feed_22 : decode cX7_feed 22 = .ok (.if_icmp .le 7, 3) := by decide +kernel
theorem dX7_feed_25 : decode cX7_feed 25 = .ok (.bipush (-6), 2) := by decide +kernel
theorem dX7_feed_27 : decode cX7_feed 27 = .ok (.istore 4, 2) := by decide +kernel
theorem dX7_feed_29 : decode cX7_feed 29 = .ok (.iload 4, 2) := by decide +kernel
theorem dX7_feed_31 : decode cX7_feed 31 = .ok (.ifCond .eq 10, 3) := by decide +kernel
theorem dX7_feed_34 : decode cX7_feed 34 = .ok (.aload_n 0, 1) := by decide +kernel
theorem dX7_feed_35 : decode cX7_feed 35 = .ok (.iload 4, 2) := by decide +kernel
theorem dX7_feed_37 : decode cX7_feed 37 = .ok (.invokevirtual 81, 3) := by decide +kernel
theorem dX7_feed_40 : decode cX7_feed 40 = .ok (.ireturn, 1) := by decide +kernel
theorem dX7_feed_41 : decode cX7_feed 41 = .ok (.iconst 0, 1) := by decide +kernel
theorem dX7_feed_42 : decode cX7_feed 42 = .ok (.istore 5, 2) := by decide +kernel
theorem dX7_feed_44 : decode cX7_feed 44 = .ok (.iload 5, 2) := by decide +kernel
theorem dX7_feed_46 : decode cX7_feed 46 = .ok (.iload_n 1, 1) := by decide +kernel
theorem dX7_feed_47 : decode cX7_feed 47 = .ok (.if_icmp .ge 40, 3) := by decide +kernel
theorem dX7_feed_50 : decode cX7_feed 50 = .ok (.aload_n 0, 1) := by decide +kernel
theorem dX7_feed_51 : decode cX7_feed 51 = .ok (.getfield 41, 3) := by decide +kernel
theorem dX7_feed_54 : decode cX7_feed 54 = .ok (.aload_n 0, 1) := by decide +kernel
theorem dX7_feed_55 : decode cX7_feed 55 = .ok (.getfield 148, 3) := by decide +kernel
theorem dX7_feed_58 : decode cX7_feed 58 = .ok (.lload_n 2, 1) := by decide +kernel
theorem dX7_feed_59 : decode cX7_feed 59 = .ok (.bipush 8, 2) := by decide +kernel
theorem dX7_feed_61 : decode cX7_feed 61 = .ok (.iload 5, 2) := by decide +kernel
theorem dX7_feed_63 : decode cX7_feed 63 = .ok (.imul, 1) := by decide +kernel
theorem dX7_feed_64 : decode cX7_feed 64 = .ok (.lshr, 1) := by decide +kernel
theorem dX7_feed_65 : decode cX7_feed 65 = .ok (.ldc2_w 151, 3) := by decide +kernel
theorem dX7_feed_68 : decode cX7_feed 68 = .ok (.land, 1) := by decide +kernel
theorem dX7_feed_69 : decode cX7_feed 69 = .ok (.l2i, 1) := by decide +kernel
theorem dX7_feed_70 : decode cX7_feed 70 = .ok (.iastore, 1) := by decide +kernel
theorem dX7_feed_71 : decode cX7_feed 71 = .ok (.aload_n 0, 1) := by decide +kernel
theorem dX7_feed_72 : decode cX7_feed 72 = .ok (.dup, 1) := by decide +kernel
theorem dX7_feed_73 : decode cX7_feed 73 = .ok (.getfield 148, 3) := by decide +kernel
theorem dX7_feed_76 : decode cX7_feed 76 = .ok (.iconst 1, 1) := by decide +kernel
theorem dX7_feed_77 : decode cX7_feed 77 = .ok (.iadd, 1) := by decide +kernel
theorem dX7_feed_78 : decode cX7_feed 78 = .ok (.putfield 148, 3) := by decide +kernel
theorem dX7_feed_81 : decode cX7_feed 81 = .ok (.iinc 5 1, 3) := by decide +kernel
theorem dX7_feed_84 : decode cX7_feed 84 = .ok (.goto (-40), 3) := by decide +kernel
theorem dX7_feed_87 : decode cX7_feed 87 = .ok (.aload_n 0, 1) := by decide +kernel
theorem dX7_feed_88 : decode cX7_feed 88 = .ok (.getfield 148, 3) := by decide +kernel
theorem dX7_feed_91 : decode cX7_feed 91 = .ok (.ireturn, 1) := by decide +kernel
theorem dX7_sign_0 : decode cX7_sign 0 = .ok (.aload_n 0, 1) := by decide +kernel
theorem dX7_sign_1 : decode cX7_sign 1 = .ok (.getfield 153, 3) := by decide +kernel
theorem dX7_sign_4 : decode cX7_sign 4 = .ok (.aload_n 0, 1) := by decide +kernel
theorem dX7_sign_5 : decode cX7_sign 5 = .ok (.getfield 148, 3) := by decide +kernel
theorem dX7_sign_8 : decode cX7_sign 8 = .ok (.if_icmp .ge 15, 3) := by decide +kernel
theorem dX7_sign_11 : decode cX7_sign 11 = .ok (.aload_n 0, 1) := by decide +kernel
theorem dX7_sign_12 : decode cX7_sign 12 = .ok (.getfield 41, 3) := by decide +kernel
theorem dX7_sign_15 : decode cX7_sign 15 = .ok (.aload_n 0, 1) := by decide +kernel
theorem dX7_sign_16 : decode cX7_sign 16 = .ok (.getfield 153, 3) := by decide +kernel
theorem dX7_sign_19 : decode cX7_sign 19 = .ok (.iaload, 1) := by decide +kernel
theorem dX7_sign_20 : decode cX7_sign 20 = .ok (.goto 4, 3) := by decide +kernel
theorem dX7_sign_23 : decode cX7_sign 23 = .ok (.iconst (-1), 1) := by decide +kernel
theorem dX7_sign_24 : decode cX7_sign 24 = .ok (.ireturn, 1) := by decide +kernel
set_option maxRecDepth 20000 in
theorem dX7_number__0 : decode cX7_number_ 0 = .ok (.aload_n 0, 1) := by decide +kernel
theorem dX7_number__1 : decode cX7_number_ 1 = .ok (.invokevirtual 156, 3) := by decide +kernel
theorem dX7_number__4 : decode cX7_number_ 4 = .ok (.bipush 48, 2) := by decide +kernel
theorem dX7_number__6 : decode cX7_number_ 6 = .ok (.bipush 57, 2) := by decide +kernel
theorem dX7_number__8 : decode cX7_number_ 8 = .ok (.invokestatic 96, 3) := by decide +kernel
theorem dX7_number__11 : decode cX7_number_ 11 = .ok (.ifCond .ne 5, 3) := by decide +kernel
theorem dX7_number__14 : decode cX7_number_ 14 = .ok (.iconst (-1), 1) := by decide +kernel
theorem dX7_number__15 : decode cX7_number_ 15 = .ok (.ireturn, 1) := by decide +kernel
theorem dX7_number__16 : decode cX7_number_ 16 = .ok (.iconst 0, 1) := by decide +kernel
theorem dX7_number__17 : decode cX7_number_ 17 = .ok (.istore_n 2, 1) := by decide +kernel
theorem dX7_number__18 : decode cX7_number_ 18 = .ok (.iconst 0, 1) := by decide +kernel
theorem dX7_number__19 : decode cX7_number_ 19 = .ok (.istore_n 3, 1) := by decide +kernel
theorem dX7_number__20 : decode cX7_number_ 20 = .ok (.iload_n 3, 1) := by decide +kernel
theorem dX7_number__21 : decode cX7_number_ 21 = .ok (.iload_n 1, 1) := by decide +kernel
theorem dX7_number__22 : decode cX7_number_ 22 = .ok (.if_icmp .ge 46, 3) := by decide +kernel
theorem dX7_number__25 : decode cX7_number_ 25 = .ok (.aload_n 0, 1) := by decide +kernel
theorem dX7_number__26 : decode cX7_number_ 26 = .ok (.invokevirtual 156, 3) := by decide +kernel
theorem dX7_number__29 : decode cX7_number_ 29 = .ok (.bipush 48, 2) := by decide +kernel
theorem dX7_number__31 : decode cX7_number_ 31 = .ok (.bipush 57, 2) := by decide +kernel
theorem dX7_number__33 : decode cX7_number_ 33 = .ok (.invokestatic 96, 3) := by decide +kernel
theorem dX7_number__36 : decode cX7_number_ 36 = .ok (.ifCond .eq 32, 3) := by decide +kernel
theorem dX7_number__39 : decode cX7_number_ 39 = .ok (.bipush 10, 2) := by decide +kernel
theorem dX7_number__41 : decode cX7_number_ 41 = .ok (.iload_n 2, 1) := by decide +kernel
theorem dX7_number__42 : decode cX7_number_ 42 = .ok (.imul, 1) := by decide +kernel
theorem dX7_number__43 : decode cX7_number_ 43 = .ok (.aload_n 0, 1) := by decide +kernel
theorem dX7_number__44 : decode cX7_number_ 44 = .ok (.invokevirtual 156, 3) := by decide +kernel
theorem dX7_number__47 : decode cX7_number_ 47 = .ok (.iadd, 1) := by decide +kernel
theorem dX7_number__48 : decode cX7_number_ 48 = .ok (.bipush 48, 2) := by decide +kernel
theorem dX7_number__50 : decode cX7_number_ 50 = .ok (.isub, 1) := by decide +kernel
theorem dX7_number__51 : decode cX7_number_ 51 = .ok (.istore_n 2, 1) := by decide +kernel
theorem dX7_number__52 : decode cX7_number_ 52 = .ok (.aload_n 0, 1) := by decide +kernel
theorem dX7_number__53 : decode cX7_number_ 53 = .ok (.dup, 1) := by decide +kernel
theorem dX7_number__54 : decode cX7_number_ 54 = .ok (.getfield 153, 3) := by decide +kernel
theorem dX7_number__57 : decode cX7_number_ 57 = .ok (.iconst 1, 1) := by decide +kernel
theorem dX7_number__58 : decode cX7_number_ 58 = .ok (.iadd, 1) := by decide +kernel
theorem dX7_number__59 : decode cX7_number_ 59 = .ok (.putfield 153, 3) := by decide +kernel
theorem dX7_number__62 : decode cX7_number_ 62 = .ok (.iinc 3 1, 3) := by decide +kernel
theorem dX7_number__65 : decode cX7_number_ 65 = .ok (.goto (-45), 3) := by decide +kernel
theorem dX7_number__68 : decode cX7_number_ 68 = .ok (.iload_n 2, 1) := by decide +kernel
theorem dX7_number__69 : decode cX7_number_ 69 = .ok (.ireturn, 1) := by decide +kernel
set_option maxRecDepth 20000 in
theorem dX7_reads_0 : decode cX7_reads 0 = .ok (.aload_n 0, 1) := by decide +kernel
theorem dX7_reads_1 : decode cX7_reads 1 = .ok (.iconst 0, 1) := by decide +kernel
theorem dX7_reads_2 : decode cX7_reads 2 = .ok (.putfield 153, 3) := by decide +kernel
theorem dX7_reads_5 : decode cX7_reads 5 = .ok (.aload_n 0, 1) := by decide +kernel
theorem dX7_reads_6 : decode cX7_reads 6 = .ok (.invokevirtual 156, 3) := by decide +kernel
theorem dX7_reads_9 : decode cX7_reads 9 = .ok (.istore_n 1, 1) := by decide +kernel
theorem dX7_reads_10 : decode cX7_reads 10 = .ok (.iload_n 1, 1) := by decide +kernel
theorem dX7_reads_11 : decode cX7_reads 11 = .ok (.bipush 115, 2) := by decide +kernel
theorem dX7_reads_13 : decode cX7_reads 13 = .ok (.if_icmp .ne 7, 3) := by decide +kernel
theorem dX7_reads_16 : decode cX7_reads 16 = .ok (.iconst 0, 1) := by decide +kernel
theorem dX7_reads_17 : decode cX7_reads 17 = .ok (.goto 54, 3) := by decide +kernel
theorem dX7_reads_20 : decode cX7_reads 20 = .ok (.iload_n 1, 1) := by decide +kernel
theorem dX7_reads_21 : decode cX7_reads 21 = .ok (.bipush 97, 2) := by decide +kernel
theorem dX7_reads_23 : decode cX7_reads 23 = .ok (.if_icmp .ne 7, 3) := by decide +kernel
theorem dX7_reads_26 : decode cX7_reads 26 = .ok (.iconst 1, 1) := by decide +kernel
theorem dX7_reads_27 : decode cX7_reads 27 = .ok (.goto 44, 3) := by decide +kernel
theorem dX7_reads_30 : decode cX7_reads 30 = .ok (.iload_n 1, 1) := by decide +kernel
theorem dX7_reads_31 : decode cX7_reads 31 = .ok (.bipush 110, 2) := by decide +kernel
theorem dX7_reads_33 : decode cX7_reads 33 = .ok (.if_icmp .ne 7, 3) := by decide +kernel
theorem dX7_reads_36 : decode cX7_reads 36 = .ok (.iconst 2, 1) := by decide +kernel
theorem dX7_reads_37 : decode cX7_reads 37 = .ok (.goto 34, 3) := by decide +kernel
theorem dX7_reads_40 : decode cX7_reads 40 = .ok (.iload_n 1, 1) := by decide +kernel
theorem dX7_reads_41 : decode cX7_reads 41 = .ok (.bipush 102, 2) := by decide +kernel
theorem dX7_reads_43 : decode cX7_reads 43 = .ok (.if_icmp .ne 7, 3) := by decide +kernel
theorem dX7_reads_46 : decode cX7_reads 46 = .ok (.iconst 3, 1) := by decide +kernel
theorem dX7_reads_47 : decode cX7_reads 47 = .ok (.goto 24, 3) := by decide +kernel
theorem dX7_reads_50 : decode cX7_reads 50 = .ok (.iload_n 1, 1) := by decide +kernel
theorem dX7_reads_51 : decode cX7_reads 51 = .ok (.bipush 99, 2) := by decide +kernel
theorem dX7_reads_53 : decode cX7_reads 53 = .ok (.if_icmp .ne 7, 3) := by decide +kernel
theorem dX7_reads_56 : decode cX7_reads 56 = .ok (.iconst 4, 1) := by decide +kernel
theorem dX7_reads_57 : decode cX7_reads 57 = .ok (.goto 14, 3) := by decide +kernel
theorem dX7_reads_60 : decode cX7_reads 60 = .ok (.iload_n 1, 1) := by decide +kernel
theorem dX7_reads_61 : decode cX7_reads 61 = .ok (.bipush 108, 2) := by decide +kernel
theorem dX7_reads_63 : decode cX7_reads 63 = .ok (.if_icmp .ne 7, 3) := by decide +kernel
theorem dX7_reads_66 : decode cX7_reads 66 = .ok (.iconst 5, 1) := by decide +kernel
theorem dX7_reads_67 : decode cX7_reads 67 = .ok (.goto 4, 3) := by decide +kernel
theorem dX7_reads_70 : decode cX7_reads 70 = .ok (.iconst (-1), 1) := by decide +kernel
theorem dX7_reads_71 : decode cX7_reads 71 = .ok (.istore_n 2, 1) := by decide +kernel
theorem dX7_reads_72 : decode cX7_reads 72 = .ok (.iload_n 2, 1) := by decide +kernel
theorem dX7_reads_73 : decode cX7_reads 73 = .ok (.ifCond .ge 5, 3) := by decide +kernel
theorem dX7_reads_76 : decode cX7_reads 76 = .ok (.iconst 0, 1) := by decide +kernel
theorem dX7_reads_77 : decode cX7_reads 77 = .ok (.ireturn, 1) := by decide +kernel
theorem dX7_reads_78 : decode cX7_reads 78 = .ok (.aload_n 0, 1) := by decide +kernel
theorem dX7_reads_79 : decode cX7_reads 79 = .ok (.dup, 1) := by decide +kernel
theorem dX7_reads_80 : decode cX7_reads 80 = .ok (.getfield 153, 3) := by decide +kernel
theorem dX7_reads_83 : decode cX7_reads 83 = .ok (.iconst 1, 1) := by decide +kernel
theorem dX7_reads_84 : decode cX7_reads 84 = .ok (.iadd, 1) := by decide +kernel
theorem dX7_reads_85 : decode cX7_reads 85 = .ok (.putfield 153, 3) := by decide +kernel
theorem dX7_reads_88 : decode cX7_reads 88 = .ok (.aload_n 0, 1) := by decide +kernel
theorem dX7_reads_89 : decode cX7_reads 89 = .ok (.getfield 153, 3) := by decide +kernel
theorem dX7_reads_92 : decode cX7_reads 92 = .ok (.istore_n 3, 1) := by decide +kernel
theorem dX7_reads_93 : decode cX7_reads 93 = .ok (.aload_n 0, 1) := by decide +kernel
theorem dX7_reads_94 : decode cX7_reads 94 = .ok (.iconst 3, 1) := by decide +kernel
theorem dX7_reads_95 : decode cX7_reads 95 = .ok (.invokevirtual 160, 3) := by decide +kernel
theorem dX7_reads_98 : decode cX7_reads 98 = .ok (.istore 4, 2) := by decide +kernel
theorem dX7_reads_100 : decode cX7_reads 100 = .ok (.iload 4, 2) := by decide +kernel
theorem dX7_reads_102 : decode cX7_reads 102 = .ok (.ifCond .ge 5, 3) := by decide +kernel
theorem dX7_reads_105 : decode cX7_reads 105 = .ok (.iconst 0, 1) := by decide +kernel
theorem dX7_reads_106 : decode cX7_reads 106 = .ok (.ireturn, 1) := by decide +kernel
theorem dX7_reads_107 : decode cX7_reads 107 = .ok (.iload 4, 2) := by decide +kernel
theorem dX7_reads_109 : decode cX7_reads 109 = .ok (.sipush 365, 3) := by decide +kernel
theorem dX7_reads_112 : decode cX7_reads 112 = .ok (.if_icmp .le 10, 3) := by decide +kernel
theorem dX7_reads_115 : decode cX7_reads 115 = .ok (.aload_n 0, 1) := by decide +kernel
theorem dX7_reads_116 : decode cX7_reads 116 = .ok (.iload_n 3, 1) := by decide +kernel
theorem dX7_reads_117 : decode cX7_reads 117 = .ok (.putfield 153, 3) := by decide +kernel
theorem dX7_reads_120 : decode cX7_reads 120 = .ok (.iconst 0, 1) := by decide +kernel
theorem dX7_reads_121 : decode cX7_reads 121 = .ok (.ireturn, 1) := by decide +kernel
theorem dX7_reads_122 : decode cX7_reads 122 = .ok (.aload_n 0, 1) := by decide +kernel
theorem dX7_reads_123 : decode cX7_reads 123 = .ok (.invokevirtual 156, 3) := by decide +kernel
theorem dX7_reads_126 : decode cX7_reads 126 = .ok (.bipush 44, 2) := by decide +kernel
theorem dX7_reads_128 : decode cX7_reads 128 = .ok (.if_icmp .eq 5, 3) := by decide +kernel
theorem dX7_reads_131 : decode cX7_reads 131 = .ok (.iconst 0, 1) := by decide +kernel
theorem dX7_reads_132 : decode cX7_reads 132 = .ok (.ireturn, 1) := by decide +kernel
theorem dX7_reads_133 : decode cX7_reads 133 = .ok (.aload_n 0, 1) := by decide +kernel
theorem dX7_reads_134 : decode cX7_reads 134 = .ok (.dup, 1) := by decide +kernel
theorem dX7_reads_135 : decode cX7_reads 135 = .ok (.getfield 153, 3) := by decide +kernel
theorem dX7_reads_138 : decode cX7_reads 138 = .ok (.iconst 1, 1) := by decide +kernel
theorem dX7_reads_139 : decode cX7_reads 139 = .ok (.iadd, 1) := by decide +kernel
theorem dX7_reads_140 : decode cX7_reads 140 = .ok (.putfield 153, 3) := by decide +kernel
theorem dX7_reads_143 : decode cX7_reads 143 = .ok (.aload_n 0, 1) := by decide +kernel
theorem dX7_reads_144 : decode cX7_reads 144 = .ok (.iconst 4, 1) := by decide +kernel
theorem dX7_reads_145 : decode cX7_reads 145 = .ok (.invokevirtual 160, 3) := by decide +kernel
theorem dX7_reads_148 : decode cX7_reads 148 = .ok (.istore 5, 2) := by decide +kernel
theorem dX7_reads_150 : decode cX7_reads 150 = .ok (.iload 5, 2) := by decide +kernel
theorem dX7_reads_152 : decode cX7_reads 152 = .ok (.ifCond .lt 14, 3) := by decide +kernel
theorem dX7_reads_155 : decode cX7_reads 155 = .ok (.aload_n 0, 1) := by decide +kernel
theorem dX7_reads_156 : decode cX7_reads 156 = .ok (.getfield 153, 3) := by decide +kernel
theorem dX7_reads_159 : decode cX7_reads 159 = .ok (.aload_n 0, 1) := by decide +kernel
theorem dX7_reads_160 : decode cX7_reads 160 = .ok (.getfield 148, 3) := by decide +kernel
theorem dX7_reads_163 : decode cX7_reads 163 = .ok (.if_icmp .ge 5, 3) := by decide +kernel
theorem dX7_reads_166 : decode cX7_reads 166 = .ok (.iconst 0, 1) := by decide +kernel
theorem dX7_reads_167 : decode cX7_reads 167 = .ok (.ireturn, 1) := by decide +kernel
theorem dX7_reads_168 : decode cX7_reads 168 = .ok (.aload_n 0, 1) := by decide +kernel
theorem dX7_reads_169 : decode cX7_reads 169 = .ok (.getfield 44, 3) := by decide +kernel
theorem dX7_reads_172 : decode cX7_reads 172 = .ok (.aload_n 0, 1) := by decide +kernel
theorem dX7_reads_173 : decode cX7_reads 173 = .ok (.getfield 163, 3) := by decide +kernel
theorem dX7_reads_176 : decode cX7_reads 176 = .ok (.iload_n 2, 1) := by decide +kernel
theorem dX7_reads_177 : decode cX7_reads 177 = .ok (.iastore, 1) := by decide +kernel
theorem dX7_reads_178 : decode cX7_reads 178 = .ok (.aload_n 0, 1) := by decide +kernel
theorem dX7_reads_179 : decode cX7_reads 179 = .ok (.getfield 47, 3) := by decide +kernel
theorem dX7_reads_182 : decode cX7_reads 182 = .ok (.aload_n 0, 1) := by decide +kernel
theorem dX7_reads_183 : decode cX7_reads 183 = .ok (.getfield 163, 3) := by decide +kernel
theorem dX7_reads_186 : decode cX7_reads 186 = .ok (.iload 4, 2) := by decide +kernel
theorem dX7_reads_188 : decode cX7_reads 188 = .ok (.iastore, 1) := by decide +kernel
theorem dX7_reads_189 : decode cX7_reads 189 = .ok (.aload_n 0, 1) := by decide +kernel
theorem dX7_reads_190 : decode cX7_reads 190 = .ok (.getfield 50, 3) := by decide +kernel
theorem dX7_reads_193 : decode cX7_reads 193 = .ok (.aload_n 0, 1) := by decide +kernel
theorem dX7_reads_194 : decode cX7_reads 194 = .ok (.getfield 163, 3) := by decide +kernel
theorem dX7_reads_197 : decode cX7_reads 197 = .ok (.iload 5, 2) := by decide +kernel
theorem dX7_reads_199 : decode cX7_reads 199 = .ok (.iastore, 1) := by decide +kernel
theorem dX7_reads_200 : decode cX7_reads 200 = .ok (.iconst 1, 1) := by decide +kernel
theorem dX7_reads_201 : decode cX7_reads 201 = .ok (.ireturn, 1) := by decide +kernel
set_option maxRecDepth 20000 in
theorem dX7_man_0 : decode cX7_man 0 = .ok (.aload_n 0, 1) := by decide +kernel
theorem dX7_man_1 : decode cX7_man 1 = .ok (.getfield 163, 3) := by decide +kernel
theorem dX7_man_4 : decode cX7_man 4 = .ok (.bipush 60, 2) := by decide +kernel
theorem dX7_man_6 : decode cX7_man 6 = .ok (.if_icmp .ne 10, 3) := by decide +kernel
theorem dX7_man_9 : decode cX7_man 9 = .ok (.aload_n 0, 1) := by decide +kernel
theorem dX7_man_10 : decode cX7_man 10 = .ok (.bipush (-6), 2) := by decide +kernel
theorem dX7_man_12 : decode cX7_man 12 = .ok (.invokevirtual 81, 3) := by decide +kernel
theorem dX7_man_15 : decode cX7_man 15 = .ok (.ireturn, 1) := by decide +kernel
theorem dX7_man_16 : decode cX7_man 16 = .ok (.aload_n 0, 1) := by decide +kernel
theorem dX7_man_17 : decode cX7_man 17 = .ok (.invokevirtual 166, 3) := by decide +kernel
theorem dX7_man_20 : decode cX7_man 20 = .ok (.istore_n 1, 1) := by decide +kernel
theorem dX7_man_21 : decode cX7_man 21 = .ok (.aload_n 0, 1) := by decide +kernel
theorem dX7_man_22 : decode cX7_man 22 = .ok (.iconst 0, 1) := by decide +kernel
theorem dX7_man_23 : decode cX7_man 23 = .ok (.putfield 148, 3) := by decide +kernel
theorem dX7_man_26 : decode cX7_man 26 = .ok (.iload_n 1, 1) := by decide +kernel
theorem dX7_man_27 : decode cX7_man 27 = .ok (.ifCond .ne 11, 3) := by decide +kernel
theorem dX7_man_30 : decode cX7_man 30 = .ok (.bipush (-20), 2) := by decide +kernel
theorem dX7_man_32 : decode cX7_man 32 = .ok (.aload_n 0, 1) := by decide +kernel
theorem dX7_man_33 : decode cX7_man 33 = .ok (.getfield 153, 3) := by decide +kernel
theorem dX7_man_36 : decode cX7_man 36 = .ok (.isub, 1) := by decide +kernel
theorem dX7_man_37 : decode cX7_man 37 = .ok (.ireturn, 1) := by decide +kernel
theorem dX7_man_38 : decode cX7_man 38 = .ok (.aload_n 0, 1) := by decide +kernel
theorem dX7_man_39 : decode cX7_man 39 = .ok (.dup, 1) := by decide +kernel
theorem dX7_man_40 : decode cX7_man 40 = .ok (.getfield 163, 3) := by decide +kernel
theorem dX7_man_43 : decode cX7_man 43 = .ok (.iconst 1, 1) := by decide +kernel
theorem dX7_man_44 : decode cX7_man 44 = .ok (.iadd, 1) := by decide +kernel
theorem dX7_man_45 : decode cX7_man 45 = .ok (.putfield 163, 3) := by decide +kernel
theorem dX7_man_48 : decode cX7_man 48 = .ok (.aload_n 0, 1) := by decide +kernel
theorem dX7_man_49 : decode cX7_man 49 = .ok (.getfield 163, 3) := by decide +kernel
theorem dX7_man_52 : decode cX7_man 52 = .ok (.iconst 1, 1) := by decide +kernel
theorem dX7_man_53 : decode cX7_man 53 = .ok (.isub, 1) := by decide +kernel
theorem dX7_man_54 : decode cX7_man 54 = .ok (.ireturn, 1) := by decide +kernel
theorem dX7_isMan_0 : decode cX7_isMan 0 = .ok (.iload_n 1, 1) := by decide +kernel
theorem dX7_isMan_1 : decode cX7_isMan 1 = .ok (.ifCond .lt 15, 3) := by decide +kernel
theorem dX7_isMan_4 : decode cX7_isMan 4 = .ok (.iload_n 1, 1) := by decide +kernel
theorem dX7_isMan_5 : decode cX7_isMan 5 = .ok (.aload_n 0, 1) := by decide +kernel
theorem dX7_isMan_6 : decode cX7_isMan 6 = .ok (.getfield 163, 3) := by decide +kernel
theorem dX7_isMan_9 : decode cX7_isMan 9 = .ok (.if_icmp .ge 7, 3) := by decide +kernel
theorem dX7_isMan_12 : decode cX7_isMan 12 = .ok (.iconst 1, 1) := by decide +kernel
theorem dX7_isMan_13 : decode cX7_isMan 13 = .ok (.goto 4, 3) := by decide +kernel
theorem dX7_isMan_16 : decode cX7_isMan 16 = .ok (.iconst 0, 1) := by decide +kernel
theorem dX7_isMan_17 : decode cX7_isMan 17 = .ok (.ireturn, 1) := by decide +kernel
set_option maxRecDepth 20000 in
theorem dX7_manOf_0 : decode cX7_manOf 0 = .ok (.aload_n 0, 1) := by decide +kernel
theorem dX7_manOf_1 : decode cX7_manOf 1 = .ok (.iload_n 1, 1) := by decide +kernel
theorem dX7_manOf_2 : decode cX7_manOf 2 = .ok (.invokevirtual 170, 3) := by decide +kernel
theorem dX7_manOf_5 : decode cX7_manOf 5 = .ok (.ifCond .ne 9, 3) := by decide +kernel
theorem dX7_manOf_8 : decode cX7_manOf 8 = .ok (.aload_n 0, 1) := by decide +kernel
theorem dX7_manOf_9 : decode cX7_manOf 9 = .ok (.iconst (-1), 1) := by decide +kernel
theorem dX7_manOf_10 : decode cX7_manOf 10 = .ok (.invokevirtual 81, 3) := by decide +kernel
theorem dX7_manOf_13 : decode cX7_manOf 13 = .ok (.ireturn, 1) := by decide +kernel
theorem dX7_manOf_14 : decode cX7_manOf 14 = .ok (.iload_n 2, 1) := by decide +kernel
theorem dX7_manOf_15 : decode cX7_manOf 15 = .ok (.tableswitch 46 0 2 #[25, 32, 39], 25) := by decide +kernel
theorem dX7_manOf_40 : decode cX7_manOf 40 = .ok (.aload_n 0, 1) := by decide +kernel
theorem dX7_manOf_41 : decode cX7_manOf 41 = .ok (.getfield 44, 3) := by decide +kernel
theorem dX7_manOf_44 : decode cX7_manOf 44 = .ok (.iload_n 1, 1) := by decide +kernel
theorem dX7_manOf_45 : decode cX7_manOf 45 = .ok (.iaload, 1) := by decide +kernel
theorem dX7_manOf_46 : decode cX7_manOf 46 = .ok (.ireturn, 1) := by decide +kernel
theorem dX7_manOf_47 : decode cX7_manOf 47 = .ok (.aload_n 0, 1) := by decide +kernel
theorem dX7_manOf_48 : decode cX7_manOf 48 = .ok (.getfield 47, 3) := by decide +kernel
theorem dX7_manOf_51 : decode cX7_manOf 51 = .ok (.iload_n 1, 1) := by decide +kernel
theorem dX7_manOf_52 : decode cX7_manOf 52 = .ok (.iaload, 1) := by decide +kernel
theorem dX7_manOf_53 : decode cX7_manOf 53 = .ok (.ireturn, 1) := by decide +kernel
theorem dX7_manOf_54 : decode cX7_manOf 54 = .ok (.aload_n 0, 1) := by decide +kernel
theorem dX7_manOf_55 : decode cX7_manOf 55 = .ok (.getfield 50, 3) := by decide +kernel
theorem dX7_manOf_58 : decode cX7_manOf 58 = .ok (.iload_n 1, 1) := by decide +kernel
theorem dX7_manOf_59 : decode cX7_manOf 59 = .ok (.iaload, 1) := by decide +kernel
theorem dX7_manOf_60 : decode cX7_manOf 60 = .ok (.ireturn, 1) := by decide +kernel
theorem dX7_manOf_61 : decode cX7_manOf 61 = .ok (.aload_n 0, 1) := by decide +kernel
theorem dX7_manOf_62 : decode cX7_manOf 62 = .ok (.bipush (-2), 2) := by decide +kernel
theorem dX7_manOf_64 : decode cX7_manOf 64 = .ok (.invokevirtual 81, 3) := by decide +kernel
theorem dX7_manOf_67 : decode cX7_manOf 67 = .ok (.ireturn, 1) := by decide +kernel
set_option maxRecDepth 20000 in
theorem dX7_cut_0 : decode cX7_cut 0 = .ok (.iload_n 1, 1) := by decide +kernel
theorem dX7_cut_1 : decode cX7_cut 1 = .ok (.iconst 0, 1) := by decide +kernel
theorem dX7_cut_2 : decode cX7_cut 2 = .ok (.sipush 366, 3) := by decide +kernel
theorem dX7_cut_5 : decode cX7_cut 5 = .ok (.invokestatic 104, 3) := by decide +kernel
theorem dX7_cut_8 : decode cX7_cut 8 = .ok (.istore_n 2, 1) := by decide +kernel
theorem dX7_cut_9 : decode cX7_cut 9 = .ok (.iload_n 2, 1) := by decide +kernel
theorem dX7_cut_10 : decode cX7_cut 10 = .ok (.ifCond .eq 9, 3) := by decide +kernel
theorem dX7_cut_13 : decode cX7_cut 13 = .ok (.aload_n 0, 1) := by decide +kernel
theorem dX7_cut_14 : decode cX7_cut 14 = .ok (.iload_n 2, 1) := by decide +kernel
theorem dX7_cut_15 : decode cX7_cut 15 = .ok (.invokevirtual 81, 3) := by decide +kernel
theorem dX7_cut_18 : decode cX7_cut 18 = .ok (.ireturn, 1) := by decide +kernel
theorem dX7_cut_19 : decode cX7_cut 19 = .ok (.aload_n 0, 1) := by decide +kernel
theorem dX7_cut_20 : decode cX7_cut 20 = .ok (.getfield 59, 3) := by decide +kernel
theorem dX7_cut_23 : decode cX7_cut 23 = .ok (.istore_n 3, 1) := by decide +kernel
theorem dX7_cut_24 : decode cX7_cut 24 = .ok (.aload_n 0, 1) := by decide +kernel
theorem dX7_cut_25 : decode cX7_cut 25 = .ok (.iload_n 1, 1) := by decide +kernel
theorem dX7_cut_26 : decode cX7_cut 26 = .ok (.putfield 59, 3) := by decide +kernel
theorem dX7_cut_29 : decode cX7_cut 29 = .ok (.iload_n 3, 1) := by decide +kernel
theorem dX7_cut_30 : decode cX7_cut 30 = .ok (.ireturn, 1) := by decide +kernel
set_option maxRecDepth 20000 in
theorem dX7_law_0 : decode cX7_law 0 = .ok (.iload_n 1, 1) := by decide +kernel
theorem dX7_law_1 : decode cX7_law 1 = .ok (.iconst 0, 1) := by decide +kernel
theorem dX7_law_2 : decode cX7_law 2 = .ok (.iconst 4, 1) := by decide +kernel
theorem dX7_law_3 : decode cX7_law 3 = .ok (.invokestatic 96, 3) := by decide +kernel
theorem dX7_law_6 : decode cX7_law 6 = .ok (.ifCond .ne 9, 3) := by decide +kernel
theorem dX7_law_9 : decode cX7_law 9 = .ok (.aload_n 0, 1) := by decide +kernel
theorem dX7_law_10 : decode cX7_law 10 = .ok (.iconst (-1), 1) := by decide +kernel
theorem dX7_law_11 : decode cX7_law 11 = .ok (.invokevirtual 81, 3) := by decide +kernel
theorem dX7_law_14 : decode cX7_law 14 = .ok (.ireturn, 1) := by decide +kernel
theorem dX7_law_15 : decode cX7_law 15 = .ok (.iload_n 2, 1) := by decide +kernel
theorem dX7_law_16 : decode cX7_law 16 = .ok (.iconst 0, 1) := by decide +kernel
theorem dX7_law_17 : decode cX7_law 17 = .ok (.aload_n 0, 1) := by decide +kernel
theorem dX7_law_18 : decode cX7_law 18 = .ok (.getfield 56, 3) := by decide +kernel
theorem dX7_law_21 : decode cX7_law 21 = .ok (.iload_n 1, 1) := by decide +kernel
theorem dX7_law_22 : decode cX7_law 22 = .ok (.iaload, 1) := by decide +kernel
theorem dX7_law_23 : decode cX7_law 23 = .ok (.invokestatic 104, 3) := by decide +kernel
theorem dX7_law_26 : decode cX7_law 26 = .ok (.istore_n 3, 1) := by decide +kernel
theorem dX7_law_27 : decode cX7_law 27 = .ok (.iload_n 3, 1) := by decide +kernel
theorem dX7_law_28 : decode cX7_law 28 = .ok (.ifCond .eq 9, 3) := by decide +kernel
theorem dX7_law_31 : decode cX7_law 31 = .ok (.aload_n 0, 1) := by decide +kernel
theorem dX7_law_32 : decode cX7_law 32 = .ok (.iload_n 3, 1) := by decide +kernel
theorem dX7_law_33 : decode cX7_law 33 = .ok (.invokevirtual 81, 3) := by decide +kernel
theorem dX7_law_36 : decode cX7_law 36 = .ok (.ireturn, 1) := by decide +kernel
theorem dX7_law_37 : decode cX7_law 37 = .ok (.aload_n 0, 1) := by decide +kernel
theorem dX7_law_38 : decode cX7_law 38 = .ok (.getfield 53, 3) := by decide +kernel
theorem dX7_law_41 : decode cX7_law 41 = .ok (.iload_n 1, 1) := by decide +kernel
theorem dX7_law_42 : decode cX7_law 42 = .ok (.iaload, 1) := by decide +kernel
theorem dX7_law_43 : decode cX7_law 43 = .ok (.istore 4, 2) := by decide +kernel
theorem dX7_law_45 : decode cX7_law 45 = .ok (.aload_n 0, 1) := by decide +kernel
theorem dX7_law_46 : decode cX7_law 46 = .ok (.getfield 53, 3) := by decide +kernel
theorem dX7_law_49 : decode cX7_law 49 = .ok (.iload_n 1, 1) := by decide +kernel
theorem dX7_law_50 : decode cX7_law 50 = .ok (.iload_n 2, 1) := by decide +kernel
theorem dX7_law_51 : decode cX7_law 51 = .ok (.iastore, 1) := by decide +kernel
theorem dX7_law_52 : decode cX7_law 52 = .ok (.iload 4, 2) := by decide +kernel
theorem dX7_law_54 : decode cX7_law 54 = .ok (.ireturn, 1) := by decide +kernel
set_option maxRecDepth 20000 in
theorem dX7_isCalled_0 : decode cX7_isCalled 0 = .ok (.aload_n 0, 1) := by decide +kernel
theorem dX7_isCalled_1 : decode cX7_isCalled 1 = .ok (.iload_n 1, 1) := by decide +kernel
theorem dX7_isCalled_2 : decode cX7_isCalled 2 = .ok (.aload_n 0, 1) := by decide +kernel
theorem dX7_isCalled_3 : decode cX7_isCalled 3 = .ok (.getfield 47, 3) := by decide +kernel
theorem dX7_isCalled_6 : decode cX7_isCalled 6 = .ok (.iload_n 2, 1) := by decide +kernel
theorem dX7_isCalled_7 : decode cX7_isCalled 7 = .ok (.iaload, 1) := by decide +kernel
theorem dX7_isCalled_8 : decode cX7_isCalled 8 = .ok (.invokevirtual 100, 3) := by decide +kernel
theorem dX7_isCalled_11 : decode cX7_isCalled 11 = .ok (.aload_n 0, 1) := by decide +kernel
theorem dX7_isCalled_12 : decode cX7_isCalled 12 = .ok (.getfield 59, 3) := by decide +kernel
theorem dX7_isCalled_15 : decode cX7_isCalled 15 = .ok (.if_icmp .gt 7, 3) := by decide +kernel
theorem dX7_isCalled_18 : decode cX7_isCalled 18 = .ok (.iconst 1, 1) := by decide +kernel
theorem dX7_isCalled_19 : decode cX7_isCalled 19 = .ok (.goto 4, 3) := by decide +kernel
theorem dX7_isCalled_22 : decode cX7_isCalled 22 = .ok (.iconst 0, 1) := by decide +kernel
theorem dX7_isCalled_23 : decode cX7_isCalled 23 = .ok (.ireturn, 1) := by decide +kernel
set_option maxRecDepth 20000 in
theorem dX7_servedAs_0 : decode cX7_servedAs 0 = .ok (.aload_n 0, 1) := by decide +kernel
theorem dX7_servedAs_1 : decode cX7_servedAs 1 = .ok (.iload_n 1, 1) := by decide +kernel
theorem dX7_servedAs_2 : decode cX7_servedAs 2 = .ok (.iload_n 2, 1) := by decide +kernel
theorem dX7_servedAs_3 : decode cX7_servedAs 3 = .ok (.invokevirtual 173, 3) := by decide +kernel
theorem dX7_servedAs_6 : decode cX7_servedAs 6 = .ok (.istore_n 3, 1) := by decide +kernel
theorem dX7_servedAs_7 : decode cX7_servedAs 7 = .ok (.aload_n 0, 1) := by decide +kernel
theorem dX7_servedAs_8 : decode cX7_servedAs 8 = .ok (.getfield 44, 3) := by decide +kernel
theorem dX7_servedAs_11 : decode cX7_servedAs 11 = .ok (.iload_n 2, 1) := by decide +kernel
theorem dX7_servedAs_12 : decode cX7_servedAs 12 = .ok (.iaload, 1) := by decide +kernel
theorem dX7_servedAs_13 : decode cX7_servedAs 13 = .ok (.tableswitch 69 0 4 #[35, 45, 47, 49, 59], 35) := by decide +kernel
theorem dX7_servedAs_48 : decode cX7_servedAs 48 = .ok (.iload_n 3, 1) := by decide +kernel
theorem dX7_servedAs_49 : decode cX7_servedAs 49 = .ok (.ifCond .eq 7, 3) := by decide +kernel
theorem dX7_servedAs_52 : decode cX7_servedAs 52 = .ok (.iconst 1, 1) := by decide +kernel
theorem dX7_servedAs_53 : decode cX7_servedAs 53 = .ok (.goto 4, 3) := by decide +kernel
theorem dX7_servedAs_56 : decode cX7_servedAs 56 = .ok (.iconst 0, 1) := by decide +kernel
theorem dX7_servedAs_57 : decode cX7_servedAs 57 = .ok (.ireturn, 1) := by decide +kernel
theorem dX7_servedAs_58 : decode cX7_servedAs 58 = .ok (.iconst 1, 1) := by decide +kernel
theorem dX7_servedAs_59 : decode cX7_servedAs 59 = .ok (.ireturn, 1) := by decide +kernel
theorem dX7_servedAs_60 : decode cX7_servedAs 60 = .ok (.iconst 0, 1) := by decide +kernel
theorem dX7_servedAs_61 : decode cX7_servedAs 61 = .ok (.ireturn, 1) := by decide +kernel
theorem dX7_servedAs_62 : decode cX7_servedAs 62 = .ok (.iload_n 3, 1) := by decide +kernel
theorem dX7_servedAs_63 : decode cX7_servedAs 63 = .ok (.ifCond .eq 7, 3) := by decide +kernel
theorem dX7_servedAs_66 : decode cX7_servedAs 66 = .ok (.iconst 3, 1) := by decide +kernel
theorem dX7_servedAs_67 : decode cX7_servedAs 67 = .ok (.goto 4, 3) := by decide +kernel
theorem dX7_servedAs_70 : decode cX7_servedAs 70 = .ok (.iconst 0, 1) := by decide +kernel
theorem dX7_servedAs_71 : decode cX7_servedAs 71 = .ok (.ireturn, 1) := by decide +kernel
theorem dX7_servedAs_72 : decode cX7_servedAs 72 = .ok (.iload_n 3, 1) := by decide +kernel
theorem dX7_servedAs_73 : decode cX7_servedAs 73 = .ok (.ifCond .eq 7, 3) := by decide +kernel
theorem dX7_servedAs_76 : decode cX7_servedAs 76 = .ok (.iconst 2, 1) := by decide +kernel
theorem dX7_servedAs_77 : decode cX7_servedAs 77 = .ok (.goto 4, 3) := by decide +kernel
theorem dX7_servedAs_80 : decode cX7_servedAs 80 = .ok (.iconst 1, 1) := by decide +kernel
theorem dX7_servedAs_81 : decode cX7_servedAs 81 = .ok (.ireturn, 1) := by decide +kernel
theorem dX7_servedAs_82 : decode cX7_servedAs 82 = .ok (.iload_n 3, 1) := by decide +kernel
theorem dX7_servedAs_83 : decode cX7_servedAs 83 = .ok (.ifCond .eq 23, 3) := by decide +kernel
theorem dX7_servedAs_86 : decode cX7_servedAs 86 = .ok (.aload_n 0, 1) := by decide +kernel
theorem dX7_servedAs_87 : decode cX7_servedAs 87 = .ok (.iload_n 1, 1) := by decide +kernel
theorem dX7_servedAs_88 : decode cX7_servedAs 88 = .ok (.aload_n 0, 1) := by decide +kernel
theorem dX7_servedAs_89 : decode cX7_servedAs 89 = .ok (.getfield 47, 3) := by decide +kernel
theorem dX7_servedAs_92 : decode cX7_servedAs 92 = .ok (.iload_n 2, 1) := by decide +kernel
theorem dX7_servedAs_93 : decode cX7_servedAs 93 = .ok (.iaload, 1) := by decide +kernel
theorem dX7_servedAs_94 : decode cX7_servedAs 94 = .ok (.invokevirtual 100, 3) := by decide +kernel
theorem dX7_servedAs_97 : decode cX7_servedAs 97 = .ok (.iconst 2, 1) := by decide +kernel
theorem dX7_servedAs_98 : decode cX7_servedAs 98 = .ok (.irem, 1) := by decide +kernel
theorem dX7_servedAs_99 : decode cX7_servedAs 99 = .ok (.ifCond .ne 7, 3) := by decide +kernel
theorem dX7_servedAs_102 : decode cX7_servedAs 102 = .ok (.iconst 1, 1) := by decide +kernel
end
section
theorem dX7_servedAs_103 : decode cX7_servedAs 103 = .ok (.goto 4, 3) := by decide +kernel
theorem dX7_servedAs_106 : decode cX7_servedAs 106 = .ok (.iconst 0, 1) := by decide +kernel
theorem dX7_servedAs_107 : decode cX7_servedAs 107 = .ok (.ireturn, 1) := by decide +kernel
set_option maxRecDepth 20000 in
theorem dX7_hasServed_0 : decode cX7_hasServed 0 = .ok (.aload_n 0, 1) := by decide +kernel
theorem dX7_hasServed_1 : decode cX7_hasServed 1 = .ok (.iload_n 1, 1) := by decide +kernel
theorem dX7_hasServed_2 : decode cX7_hasServed 2 = .ok (.iload_n 2, 1) := by decide +kernel
theorem dX7_hasServed_3 : decode cX7_hasServed 3 = .ok (.invokevirtual 177, 3) := by decide +kernel
theorem dX7_hasServed_6 : decode cX7_hasServed 6 = .ok (.iconst 1, 1) := by decide +kernel
theorem dX7_hasServed_7 : decode cX7_hasServed 7 = .ok (.if_icmp .eq 13, 3) := by decide +kernel
theorem dX7_hasServed_10 : decode cX7_hasServed 10 = .ok (.aload_n 0, 1) := by decide +kernel
theorem dX7_hasServed_11 : decode cX7_hasServed 11 = .ok (.iload_n 1, 1) := by decide +kernel
theorem dX7_hasServed_12 : decode cX7_hasServed 12 = .ok (.iload_n 2, 1) := by decide +kernel
theorem dX7_hasServed_13 : decode cX7_hasServed 13 = .ok (.invokevirtual 177, 3) := by decide +kernel
theorem dX7_hasServed_16 : decode cX7_hasServed 16 = .ok (.iconst 2, 1) := by decide +kernel
theorem dX7_hasServed_17 : decode cX7_hasServed 17 = .ok (.if_icmp .ne 7, 3) := by decide +kernel
theorem dX7_hasServed_20 : decode cX7_hasServed 20 = .ok (.iconst 1, 1) := by decide +kernel
theorem dX7_hasServed_21 : decode cX7_hasServed 21 = .ok (.goto 4, 3) := by decide +kernel
theorem dX7_hasServed_24 : decode cX7_hasServed 24 = .ok (.iconst 0, 1) := by decide +kernel
theorem dX7_hasServed_25 : decode cX7_hasServed 25 = .ok (.ireturn, 1) := by decide +kernel
set_option maxRecDepth 20000 in
theorem dX7_called_0 : decode cX7_called 0 = .ok (.iload_n 1, 1) := by decide +kernel
theorem dX7_called_1 : decode cX7_called 1 = .ok (.invokestatic 77, 3) := by decide +kernel
theorem dX7_called_4 : decode cX7_called 4 = .ok (.ifCond .eq 11, 3) := by decide +kernel
theorem dX7_called_7 : decode cX7_called 7 = .ok (.aload_n 0, 1) := by decide +kernel
theorem dX7_called_8 : decode cX7_called 8 = .ok (.iload_n 2, 1) := by decide +kernel
theorem dX7_called_9 : decode cX7_called 9 = .ok (.invokevirtual 170, 3) := by decide +kernel
theorem dX7_called_12 : decode cX7_called 12 = .ok (.ifCond .ne 9, 3) := by decide +kernel
theorem dX7_called_15 : decode cX7_called 15 = .ok (.aload_n 0, 1) := by decide +kernel
theorem dX7_called_16 : decode cX7_called 16 = .ok (.iconst (-1), 1) := by decide +kernel
theorem dX7_called_17 : decode cX7_called 17 = .ok (.invokevirtual 81, 3) := by decide +kernel
theorem dX7_called_20 : decode cX7_called 20 = .ok (.ireturn, 1) := by decide +kernel
theorem dX7_called_21 : decode cX7_called 21 = .ok (.aload_n 0, 1) := by decide +kernel
theorem dX7_called_22 : decode cX7_called 22 = .ok (.iload_n 1, 1) := by decide +kernel
theorem dX7_called_23 : decode cX7_called 23 = .ok (.iload_n 2, 1) := by decide +kernel
theorem dX7_called_24 : decode cX7_called 24 = .ok (.invokevirtual 173, 3) := by decide +kernel
theorem dX7_called_27 : decode cX7_called 27 = .ok (.ifCond .eq 7, 3) := by decide +kernel
theorem dX7_called_30 : decode cX7_called 30 = .ok (.iconst 1, 1) := by decide +kernel
theorem dX7_called_31 : decode cX7_called 31 = .ok (.goto 4, 3) := by decide +kernel
theorem dX7_called_34 : decode cX7_called 34 = .ok (.iconst 0, 1) := by decide +kernel
theorem dX7_called_35 : decode cX7_called 35 = .ok (.ireturn, 1) := by decide +kernel
set_option maxRecDepth 20000 in
theorem dX7_served_0 : decode cX7_served 0 = .ok (.iload_n 1, 1) := by decide +kernel
theorem dX7_served_1 : decode cX7_served 1 = .ok (.invokestatic 77, 3) := by decide +kernel
theorem dX7_served_4 : decode cX7_served 4 = .ok (.ifCond .eq 20, 3) := by decide +kernel
theorem dX7_served_7 : decode cX7_served 7 = .ok (.aload_n 0, 1) := by decide +kernel
theorem dX7_served_8 : decode cX7_served 8 = .ok (.iload_n 2, 1) := by decide +kernel
theorem dX7_served_9 : decode cX7_served 9 = .ok (.invokevirtual 170, 3) := by decide +kernel
theorem dX7_served_12 : decode cX7_served 12 = .ok (.ifCond .eq 12, 3) := by decide +kernel
theorem dX7_served_15 : decode cX7_served 15 = .ok (.aload_n 0, 1) := by decide +kernel
theorem dX7_served_16 : decode cX7_served 16 = .ok (.iload_n 1, 1) := by decide +kernel
theorem dX7_served_17 : decode cX7_served 17 = .ok (.iload_n 2, 1) := by decide +kernel
theorem dX7_served_18 : decode cX7_served 18 = .ok (.invokevirtual 177, 3) := by decide +kernel
theorem dX7_served_21 : decode cX7_served 21 = .ok (.goto 8, 3) := by decide +kernel
theorem dX7_served_24 : decode cX7_served 24 = .ok (.aload_n 0, 1) := by decide +kernel
theorem dX7_served_25 : decode cX7_served 25 = .ok (.iconst (-1), 1) := by decide +kernel
theorem dX7_served_26 : decode cX7_served 26 = .ok (.invokevirtual 81, 3) := by decide +kernel
theorem dX7_served_29 : decode cX7_served 29 = .ok (.ireturn, 1) := by decide +kernel
theorem dX7_lossIn_0 : decode cX7_lossIn 0 = .ok (.bipush 100, 2) := by decide +kernel
theorem dX7_lossIn_2 : decode cX7_lossIn 2 = .ok (.aload_n 0, 1) := by decide +kernel
theorem dX7_lossIn_3 : decode cX7_lossIn 3 = .ok (.getfield 53, 3) := by decide +kernel
theorem dX7_lossIn_6 : decode cX7_lossIn 6 = .ok (.iconst 2, 1) := by decide +kernel
theorem dX7_lossIn_7 : decode cX7_lossIn 7 = .ok (.iaload, 1) := by decide +kernel
theorem dX7_lossIn_8 : decode cX7_lossIn 8 = .ok (.iload_n 1, 1) := by decide +kernel
theorem dX7_lossIn_9 : decode cX7_lossIn 9 = .ok (.imul, 1) := by decide +kernel
theorem dX7_lossIn_10 : decode cX7_lossIn 10 = .ok (.isub, 1) := by decide +kernel
theorem dX7_lossIn_11 : decode cX7_lossIn 11 = .ok (.istore_n 2, 1) := by decide +kernel
theorem dX7_lossIn_12 : decode cX7_lossIn 12 = .ok (.iload_n 2, 1) := by decide +kernel
theorem dX7_lossIn_13 : decode cX7_lossIn 13 = .ok (.ifCond .ge 7, 3) := by decide +kernel
theorem dX7_lossIn_16 : decode cX7_lossIn 16 = .ok (.iconst 0, 1) := by decide +kernel
theorem dX7_lossIn_17 : decode cX7_lossIn 17 = .ok (.goto 14, 3) := by decide +kernel
theorem dX7_lossIn_20 : decode cX7_lossIn 20 = .ok (.aload_n 0, 1) := by decide +kernel
theorem dX7_lossIn_21 : decode cX7_lossIn 21 = .ok (.getfield 53, 3) := by decide +kernel
theorem dX7_lossIn_24 : decode cX7_lossIn 24 = .ok (.iconst 1, 1) := by decide +kernel
theorem dX7_lossIn_25 : decode cX7_lossIn 25 = .ok (.iaload, 1) := by decide +kernel
theorem dX7_lossIn_26 : decode cX7_lossIn 26 = .ok (.iload_n 2, 1) := by decide +kernel
theorem dX7_lossIn_27 : decode cX7_lossIn 27 = .ok (.imul, 1) := by decide +kernel
theorem dX7_lossIn_28 : decode cX7_lossIn 28 = .ok (.bipush 100, 2) := by decide +kernel
theorem dX7_lossIn_30 : decode cX7_lossIn 30 = .ok (.idiv, 1) := by decide +kernel
theorem dX7_lossIn_31 : decode cX7_lossIn 31 = .ok (.ireturn, 1) := by decide +kernel
set_option maxRecDepth 20000 in
theorem dX7_wageOf_0 : decode cX7_wageOf 0 = .ok (.aload_n 0, 1) := by decide +kernel
theorem dX7_wageOf_1 : decode cX7_wageOf 1 = .ok (.getfield 50, 3) := by decide +kernel
theorem dX7_wageOf_4 : decode cX7_wageOf 4 = .ok (.iload_n 2, 1) := by decide +kernel
theorem dX7_wageOf_5 : decode cX7_wageOf 5 = .ok (.iaload, 1) := by decide +kernel
theorem dX7_wageOf_6 : decode cX7_wageOf 6 = .ok (.aload_n 0, 1) := by decide +kernel
theorem dX7_wageOf_7 : decode cX7_wageOf 7 = .ok (.getfield 53, 3) := by decide +kernel
theorem dX7_wageOf_10 : decode cX7_wageOf 10 = .ok (.iconst 0, 1) := by decide +kernel
theorem dX7_wageOf_11 : decode cX7_wageOf 11 = .ok (.iaload, 1) := by decide +kernel
theorem dX7_wageOf_12 : decode cX7_wageOf 12 = .ok (.iload_n 3, 1) := by decide +kernel
theorem dX7_wageOf_13 : decode cX7_wageOf 13 = .ok (.imul, 1) := by decide +kernel
theorem dX7_wageOf_14 : decode cX7_wageOf 14 = .ok (.iadd, 1) := by decide +kernel
theorem dX7_wageOf_15 : decode cX7_wageOf 15 = .ok (.i2l, 1) := by decide +kernel
theorem dX7_wageOf_16 : decode cX7_wageOf 16 = .ok (.lstore 4, 2) := by decide +kernel
theorem dX7_wageOf_18 : decode cX7_wageOf 18 = .ok (.aload_n 0, 1) := by decide +kernel
theorem dX7_wageOf_19 : decode cX7_wageOf 19 = .ok (.iload_n 1, 1) := by decide +kernel
theorem dX7_wageOf_20 : decode cX7_wageOf 20 = .ok (.iload_n 2, 1) := by decide +kernel
theorem dX7_wageOf_21 : decode cX7_wageOf 21 = .ok (.invokevirtual 177, 3) := by decide +kernel
theorem dX7_wageOf_24 : decode cX7_wageOf 24 = .ok (.istore 6, 2) := by decide +kernel
theorem dX7_wageOf_26 : decode cX7_wageOf 26 = .ok (.iload 6, 2) := by decide +kernel
theorem dX7_wageOf_28 : decode cX7_wageOf 28 = .ok (.iconst 1, 1) := by decide +kernel
theorem dX7_wageOf_29 : decode cX7_wageOf 29 = .ok (.if_icmp .ne 14, 3) := by decide +kernel
theorem dX7_wageOf_32 : decode cX7_wageOf 32 = .ok (.lload 4, 2) := by decide +kernel
theorem dX7_wageOf_34 : decode cX7_wageOf 34 = .ok (.aload_n 0, 1) := by decide +kernel
theorem dX7_wageOf_35 : decode cX7_wageOf 35 = .ok (.iload_n 3, 1) := by decide +kernel
theorem dX7_wageOf_36 : decode cX7_wageOf 36 = .ok (.invokevirtual 180, 3) := by decide +kernel
theorem dX7_wageOf_39 : decode cX7_wageOf 39 = .ok (.i2l, 1) := by decide +kernel
theorem dX7_wageOf_40 : decode cX7_wageOf 40 = .ok (.lsub, 1) := by decide +kernel
theorem dX7_wageOf_41 : decode cX7_wageOf 41 = .ok (.lstore 4, 2) := by decide +kernel
theorem dX7_wageOf_43 : decode cX7_wageOf 43 = .ok (.iload 6, 2) := by decide +kernel
theorem dX7_wageOf_45 : decode cX7_wageOf 45 = .ok (.iconst 2, 1) := by decide +kernel
theorem dX7_wageOf_46 : decode cX7_wageOf 46 = .ok (.if_icmp .ne 16, 3) := by decide +kernel
theorem dX7_wageOf_49 : decode cX7_wageOf 49 = .ok (.lload 4, 2) := by decide +kernel
theorem dX7_wageOf_51 : decode cX7_wageOf 51 = .ok (.aload_n 0, 1) := by decide +kernel
theorem dX7_wageOf_52 : decode cX7_wageOf 52 = .ok (.iload_n 3, 1) := by decide +kernel
theorem dX7_wageOf_53 : decode cX7_wageOf 53 = .ok (.invokevirtual 180, 3) := by decide +kernel
theorem dX7_wageOf_56 : decode cX7_wageOf 56 = .ok (.iconst 2, 1) := by decide +kernel
theorem dX7_wageOf_57 : decode cX7_wageOf 57 = .ok (.idiv, 1) := by decide +kernel
theorem dX7_wageOf_58 : decode cX7_wageOf 58 = .ok (.i2l, 1) := by decide +kernel
theorem dX7_wageOf_59 : decode cX7_wageOf 59 = .ok (.lsub, 1) := by decide +kernel
theorem dX7_wageOf_60 : decode cX7_wageOf 60 = .ok (.lstore 4, 2) := by decide +kernel
theorem dX7_wageOf_62 : decode cX7_wageOf 62 = .ok (.iload 6, 2) := by decide +kernel
theorem dX7_wageOf_64 : decode cX7_wageOf 64 = .ok (.iconst 3, 1) := by decide +kernel
theorem dX7_wageOf_65 : decode cX7_wageOf 65 = .ok (.if_icmp .ne 15, 3) := by decide +kernel
theorem dX7_wageOf_68 : decode cX7_wageOf 68 = .ok (.lload 4, 2) := by decide +kernel
theorem dX7_wageOf_70 : decode cX7_wageOf 70 = .ok (.aload_n 0, 1) := by decide +kernel
theorem dX7_wageOf_71 : decode cX7_wageOf 71 = .ok (.getfield 53, 3) := by decide +kernel
theorem dX7_wageOf_74 : decode cX7_wageOf 74 = .ok (.iconst 3, 1) := by decide +kernel
theorem dX7_wageOf_75 : decode cX7_wageOf 75 = .ok (.iaload, 1) := by decide +kernel
theorem dX7_wageOf_76 : decode cX7_wageOf 76 = .ok (.i2l, 1) := by decide +kernel
theorem dX7_wageOf_77 : decode cX7_wageOf 77 = .ok (.ladd, 1) := by decide +kernel
theorem dX7_wageOf_78 : decode cX7_wageOf 78 = .ok (.lstore 4, 2) := by decide +kernel
theorem dX7_wageOf_80 : decode cX7_wageOf 80 = .ok (.aload_n 0, 1) := by decide +kernel
theorem dX7_wageOf_81 : decode cX7_wageOf 81 = .ok (.iload_n 1, 1) := by decide +kernel
theorem dX7_wageOf_82 : decode cX7_wageOf 82 = .ok (.iload_n 2, 1) := by decide +kernel
theorem dX7_wageOf_83 : decode cX7_wageOf 83 = .ok (.invokevirtual 173, 3) := by decide +kernel
theorem dX7_wageOf_86 : decode cX7_wageOf 86 = .ok (.ifCond .eq 16, 3) := by decide +kernel
theorem dX7_wageOf_89 : decode cX7_wageOf 89 = .ok (.lload 4, 2) := by decide +kernel
theorem dX7_wageOf_91 : decode cX7_wageOf 91 = .ok (.aload_n 0, 1) := by decide +kernel
theorem dX7_wageOf_92 : decode cX7_wageOf 92 = .ok (.getfield 53, 3) := by decide +kernel
theorem dX7_wageOf_95 : decode cX7_wageOf 95 = .ok (.iconst 4, 1) := by decide +kernel
theorem dX7_wageOf_96 : decode cX7_wageOf 96 = .ok (.iaload, 1) := by decide +kernel
theorem dX7_wageOf_97 : decode cX7_wageOf 97 = .ok (.i2l, 1) := by decide +kernel
theorem dX7_wageOf_98 : decode cX7_wageOf 98 = .ok (.lsub, 1) := by decide +kernel
theorem dX7_wageOf_99 : decode cX7_wageOf 99 = .ok (.goto 5, 3) := by decide +kernel
theorem dX7_wageOf_102 : decode cX7_wageOf 102 = .ok (.lload 4, 2) := by decide +kernel
theorem dX7_wageOf_104 : decode cX7_wageOf 104 = .ok (.lreturn, 1) := by decide +kernel
set_option maxRecDepth 20000 in
theorem dX7_notYear_0 : decode cX7_notYear 0 = .ok (.iload_n 0, 1) := by decide +kernel
theorem dX7_notYear_1 : decode cX7_notYear 1 = .ok (.iconst 0, 1) := by decide +kernel
theorem dX7_notYear_2 : decode cX7_notYear 2 = .ok (.bipush 40, 2) := by decide +kernel
theorem dX7_notYear_4 : decode cX7_notYear 4 = .ok (.invokestatic 104, 3) := by decide +kernel
theorem dX7_notYear_7 : decode cX7_notYear 7 = .ok (.ireturn, 1) := by decide +kernel
set_option maxRecDepth 20000 in
theorem dX7_wage_0 : decode cX7_wage 0 = .ok (.iload_n 1, 1) := by decide +kernel
theorem dX7_wage_1 : decode cX7_wage 1 = .ok (.invokestatic 77, 3) := by decide +kernel
theorem dX7_wage_4 : decode cX7_wage 4 = .ok (.ifCond .eq 11, 3) := by decide +kernel
theorem dX7_wage_7 : decode cX7_wage 7 = .ok (.aload_n 0, 1) := by decide +kernel
theorem dX7_wage_8 : decode cX7_wage 8 = .ok (.iload_n 2, 1) := by decide +kernel
theorem dX7_wage_9 : decode cX7_wage 9 = .ok (.invokevirtual 170, 3) := by decide +kernel
theorem dX7_wage_12 : decode cX7_wage 12 = .ok (.ifCond .ne 9, 3) := by decide +kernel
theorem dX7_wage_15 : decode cX7_wage 15 = .ok (.aload_n 0, 1) := by decide +kernel
theorem dX7_wage_16 : decode cX7_wage 16 = .ok (.iconst (-1), 1) := by decide +kernel
theorem dX7_wage_17 : decode cX7_wage 17 = .ok (.invokevirtual 121, 3) := by decide +kernel
theorem dX7_wage_20 : decode cX7_wage 20 = .ok (.lreturn, 1) := by decide +kernel
theorem dX7_wage_21 : decode cX7_wage 21 = .ok (.iload_n 3, 1) := by decide +kernel
theorem dX7_wage_22 : decode cX7_wage 22 = .ok (.invokestatic 183, 3) := by decide +kernel
theorem dX7_wage_25 : decode cX7_wage 25 = .ok (.istore 4, 2) := by decide +kernel
theorem dX7_wage_27 : decode cX7_wage 27 = .ok (.iload 4, 2) := by decide +kernel
theorem dX7_wage_29 : decode cX7_wage 29 = .ok (.ifCond .eq 12, 3) := by decide +kernel
theorem dX7_wage_32 : decode cX7_wage 32 = .ok (.aload_n 0, 1) := by decide +kernel
theorem dX7_wage_33 : decode cX7_wage 33 = .ok (.iload 4, 2) := by decide +kernel
theorem dX7_wage_35 : decode cX7_wage 35 = .ok (.invokevirtual 121, 3) := by decide +kernel
theorem dX7_wage_38 : decode cX7_wage 38 = .ok (.goto 10, 3) := by decide +kernel
theorem dX7_wage_41 : decode cX7_wage 41 = .ok (.aload_n 0, 1) := by decide +kernel
theorem dX7_wage_42 : decode cX7_wage 42 = .ok (.iload_n 1, 1) := by decide +kernel
theorem dX7_wage_43 : decode cX7_wage 43 = .ok (.iload_n 2, 1) := by decide +kernel
theorem dX7_wage_44 : decode cX7_wage 44 = .ok (.iload_n 3, 1) := by decide +kernel
theorem dX7_wage_45 : decode cX7_wage 45 = .ok (.invokevirtual 186, 3) := by decide +kernel
theorem dX7_wage_48 : decode cX7_wage 48 = .ok (.lreturn, 1) := by decide +kernel
set_option maxRecDepth 20000 in
theorem dX7_differs_0 : decode cX7_differs 0 = .ok (.lconst 0, 1) := by decide +kernel
theorem dX7_differs_1 : decode cX7_differs 1 = .ok (.lstore_n 3, 1) := by decide +kernel
theorem dX7_differs_2 : decode cX7_differs 2 = .ok (.lconst 0, 1) := by decide +kernel
theorem dX7_differs_3 : decode cX7_differs 3 = .ok (.lstore 5, 2) := by decide +kernel
theorem dX7_differs_5 : decode cX7_differs 5 = .ok (.lconst 0, 1) := by decide +kernel
theorem dX7_differs_6 : decode cX7_differs 6 = .ok (.lstore 7, 2) := by decide +kernel
theorem dX7_differs_8 : decode cX7_differs 8 = .ok (.lconst 0, 1) := by decide +kernel
theorem dX7_differs_9 : decode cX7_differs 9 = .ok (.lstore 9, 2) := by decide +kernel
theorem dX7_differs_11 : decode cX7_differs 11 = .ok (.iconst 0, 1) := by decide +kernel
theorem dX7_differs_12 : decode cX7_differs 12 = .ok (.istore 11, 2) := by decide +kernel
theorem dX7_differs_14 : decode cX7_differs 14 = .ok (.iload 11, 2) := by decide +kernel
theorem dX7_differs_16 : decode cX7_differs 16 = .ok (.aload_n 0, 1) := by decide +kernel
theorem dX7_differs_17 : decode cX7_differs 17 = .ok (.getfield 163, 3) := by decide +kernel
theorem dX7_differs_20 : decode cX7_differs 20 = .ok (.if_icmp .ge 78, 3) := by decide +kernel
theorem dX7_differs_23 : decode cX7_differs 23 = .ok (.iload_n 2, 1) := by decide +kernel
theorem dX7_differs_24 : decode cX7_differs 24 = .ok (.ifCond .lt 14, 3) := by decide +kernel
theorem dX7_differs_27 : decode cX7_differs 27 = .ok (.aload_n 0, 1) := by decide +kernel
theorem dX7_differs_28 : decode cX7_differs 28 = .ok (.iload_n 1, 1) := by decide +kernel
theorem dX7_differs_29 : decode cX7_differs 29 = .ok (.iload 11, 2) := by decide +kernel
theorem dX7_differs_31 : decode cX7_differs 31 = .ok (.iload_n 2, 1) := by decide +kernel
theorem dX7_differs_32 : decode cX7_differs 32 = .ok (.invokevirtual 186, 3) := by decide +kernel
theorem dX7_differs_35 : decode cX7_differs 35 = .ok (.goto 18, 3) := by decide +kernel
theorem dX7_differs_38 : decode cX7_differs 38 = .ok (.aload_n 0, 1) := by decide +kernel
theorem dX7_differs_39 : decode cX7_differs 39 = .ok (.iload_n 1, 1) := by decide +kernel
theorem dX7_differs_40 : decode cX7_differs 40 = .ok (.iload 11, 2) := by decide +kernel
theorem dX7_differs_42 : decode cX7_differs 42 = .ok (.invokevirtual 190, 3) := by decide +kernel
theorem dX7_differs_45 : decode cX7_differs 45 = .ok (.ifCond .eq 7, 3) := by decide +kernel
theorem dX7_differs_48 : decode cX7_differs 48 = .ok (.lconst 1, 1) := by decide +kernel
theorem dX7_differs_49 : decode cX7_differs 49 = .ok (.goto 4, 3) := by decide +kernel
theorem dX7_differs_52 : decode cX7_differs 52 = .ok (.lconst 0, 1) := by decide +kernel
theorem dX7_differs_53 : decode cX7_differs 53 = .ok (.lstore 12, 2) := by decide +kernel
theorem dX7_differs_55 : decode cX7_differs 55 = .ok (.aload_n 0, 1) := by decide +kernel
theorem dX7_differs_56 : decode cX7_differs 56 = .ok (.iload_n 1, 1) := by decide +kernel
theorem dX7_differs_57 : decode cX7_differs 57 = .ok (.iload 11, 2) := by decide +kernel
theorem dX7_differs_59 : decode cX7_differs 59 = .ok (.invokevirtual 173, 3) := by decide +kernel
theorem dX7_differs_62 : decode cX7_differs 62 = .ok (.ifCond .eq 17, 3) := by decide +kernel
theorem dX7_differs_65 : decode cX7_differs 65 = .ok (.lload_n 3, 1) := by decide +kernel
theorem dX7_differs_66 : decode cX7_differs 66 = .ok (.lconst 1, 1) := by decide +kernel
theorem dX7_differs_67 : decode cX7_differs 67 = .ok (.ladd, 1) := by decide +kernel
theorem dX7_differs_68 : decode cX7_differs 68 = .ok (.lstore_n 3, 1) := by decide +kernel
theorem dX7_differs_69 : decode cX7_differs 69 = .ok (.lload 7, 2) := by decide +kernel
theorem dX7_differs_71 : decode cX7_differs 71 = .ok (.lload 12, 2) := by decide +kernel
theorem dX7_differs_73 : decode cX7_differs 73 = .ok (.ladd, 1) := by decide +kernel
theorem dX7_differs_74 : decode cX7_differs 74 = .ok (.lstore 7, 2) := by decide +kernel
theorem dX7_differs_76 : decode cX7_differs 76 = .ok (.goto 16, 3) := by decide +kernel
theorem dX7_differs_79 : decode cX7_differs 79 = .ok (.lload 5, 2) := by decide +kernel
theorem dX7_differs_81 : decode cX7_differs 81 = .ok (.lconst 1, 1) := by decide +kernel
theorem dX7_differs_82 : decode cX7_differs 82 = .ok (.ladd, 1) := by decide +kernel
theorem dX7_differs_83 : decode cX7_differs 83 = .ok (.lstore 5, 2) := by decide +kernel
theorem dX7_differs_85 : decode cX7_differs 85 = .ok (.lload 9, 2) := by decide +kernel
theorem dX7_differs_87 : decode cX7_differs 87 = .ok (.lload 12, 2) := by decide +kernel
theorem dX7_differs_89 : decode cX7_differs 89 = .ok (.ladd, 1) := by decide +kernel
theorem dX7_differs_90 : decode cX7_differs 90 = .ok (.lstore 9, 2) := by decide +kernel
theorem dX7_differs_92 : decode cX7_differs 92 = .ok (.iinc 11 1, 3) := by decide +kernel
theorem dX7_differs_95 : decode cX7_differs 95 = .ok (.goto (-81), 3) := by decide +kernel
theorem dX7_differs_98 : decode cX7_differs 98 = .ok (.lload_n 3, 1) := by decide +kernel
theorem dX7_differs_99 : decode cX7_differs 99 = .ok (.lconst 0, 1) := by decide +kernel
theorem dX7_differs_100 : decode cX7_differs 100 = .ok (.lcmp, 1) := by decide +kernel
theorem dX7_differs_101 : decode cX7_differs 101 = .ok (.ifCond .eq 10, 3) := by decide +kernel
theorem dX7_differs_104 : decode cX7_differs 104 = .ok (.lload 5, 2) := by decide +kernel
theorem dX7_differs_106 : decode cX7_differs 106 = .ok (.lconst 0, 1) := by decide +kernel
theorem dX7_differs_107 : decode cX7_differs 107 = .ok (.lcmp, 1) := by decide +kernel
theorem dX7_differs_108 : decode cX7_differs 108 = .ok (.ifCond .ne 5, 3) := by decide +kernel
theorem dX7_differs_111 : decode cX7_differs 111 = .ok (.iconst 0, 1) := by decide +kernel
theorem dX7_differs_112 : decode cX7_differs 112 = .ok (.ireturn, 1) := by decide +kernel
theorem dX7_differs_113 : decode cX7_differs 113 = .ok (.aload_n 0, 1) := by decide +kernel
theorem dX7_differs_114 : decode cX7_differs 114 = .ok (.lload 7, 2) := by decide +kernel
theorem dX7_differs_116 : decode cX7_differs 116 = .ok (.lload 5, 2) := by decide +kernel
theorem dX7_differs_118 : decode cX7_differs 118 = .ok (.lmul, 1) := by decide +kernel
theorem dX7_differs_119 : decode cX7_differs 119 = .ok (.lload 9, 2) := by decide +kernel
theorem dX7_differs_121 : decode cX7_differs 121 = .ok (.lload_n 3, 1) := by decide +kernel
theorem dX7_differs_122 : decode cX7_differs 122 = .ok (.lmul, 1) := by decide +kernel
theorem dX7_differs_123 : decode cX7_differs 123 = .ok (.lsub, 1) := by decide +kernel
theorem dX7_differs_124 : decode cX7_differs 124 = .ok (.lload_n 3, 1) := by decide +kernel
theorem dX7_differs_125 : decode cX7_differs 125 = .ok (.lload 5, 2) := by decide +kernel
theorem dX7_differs_127 : decode cX7_differs 127 = .ok (.lmul, 1) := by decide +kernel
theorem dX7_differs_128 : decode cX7_differs 128 = .ok (.invokevirtual 132, 3) := by decide +kernel
theorem dX7_differs_131 : decode cX7_differs 131 = .ok (.iconst 1, 1) := by decide +kernel
theorem dX7_differs_132 : decode cX7_differs 132 = .ok (.ireturn, 1) := by decide +kernel
set_option maxRecDepth 20000 in
theorem dX7_notAsked_0 : decode cX7_notAsked 0 = .ok (.iload_n 1, 1) := by decide +kernel
theorem dX7_notAsked_1 : decode cX7_notAsked 1 = .ok (.invokestatic 77, 3) := by decide +kernel
theorem dX7_notAsked_4 : decode cX7_notAsked 4 = .ok (.ifCond .ne 7, 3) := by decide +kernel
theorem dX7_notAsked_7 : decode cX7_notAsked 7 = .ok (.iconst (-1), 1) := by decide +kernel
theorem dX7_notAsked_8 : decode cX7_notAsked 8 = .ok (.goto 16, 3) := by decide +kernel
theorem dX7_notAsked_11 : decode cX7_notAsked 11 = .ok (.iload_n 2, 1) := by decide +kernel
theorem dX7_notAsked_12 : decode cX7_notAsked 12 = .ok (.invokestatic 125, 3) := by decide +kernel
theorem dX7_notAsked_15 : decode cX7_notAsked 15 = .ok (.ifCond .ne 8, 3) := by decide +kernel
theorem dX7_notAsked_18 : decode cX7_notAsked 18 = .ok (.bipush (-2), 2) := by decide +kernel
theorem dX7_notAsked_20 : decode cX7_notAsked 20 = .ok (.goto 4, 3) := by decide +kernel
theorem dX7_notAsked_23 : decode cX7_notAsked 23 = .ok (.iconst 0, 1) := by decide +kernel
theorem dX7_notAsked_24 : decode cX7_notAsked 24 = .ok (.ireturn, 1) := by decide +kernel
set_option maxRecDepth 20000 in
theorem dX7_does_0 : decode cX7_does 0 = .ok (.aload_n 0, 1) := by decide +kernel
theorem dX7_does_1 : decode cX7_does 1 = .ok (.iload_n 1, 1) := by decide +kernel
theorem dX7_does_2 : decode cX7_does 2 = .ok (.iload_n 3, 1) := by decide +kernel
theorem dX7_does_3 : decode cX7_does 3 = .ok (.invokevirtual 193, 3) := by decide +kernel
theorem dX7_does_6 : decode cX7_does 6 = .ok (.istore 4, 2) := by decide +kernel
theorem dX7_does_8 : decode cX7_does 8 = .ok (.iload 4, 2) := by decide +kernel
theorem dX7_does_10 : decode cX7_does 10 = .ok (.ifCond .ne 9, 3) := by decide +kernel
theorem dX7_does_13 : decode cX7_does 13 = .ok (.iload_n 2, 1) := by decide +kernel
theorem dX7_does_14 : decode cX7_does 14 = .ok (.invokestatic 183, 3) := by decide +kernel
theorem dX7_does_17 : decode cX7_does 17 = .ok (.istore 4, 2) := by decide +kernel
theorem dX7_does_19 : decode cX7_does 19 = .ok (.iload 4, 2) := by decide +kernel
theorem dX7_does_21 : decode cX7_does 21 = .ok (.ifCond .ne 16, 3) := by decide +kernel
theorem dX7_does_24 : decode cX7_does 24 = .ok (.aload_n 0, 1) := by decide +kernel
theorem dX7_does_25 : decode cX7_does 25 = .ok (.iload_n 1, 1) := by decide +kernel
theorem dX7_does_26 : decode cX7_does 26 = .ok (.iload_n 2, 1) := by decide +kernel
theorem dX7_does_27 : decode cX7_does 27 = .ok (.invokevirtual 196, 3) := by decide +kernel
theorem dX7_does_30 : decode cX7_does 30 = .ok (.ifCond .ne 7, 3) := by decide +kernel
theorem dX7_does_33 : decode cX7_does 33 = .ok (.bipush (-3), 2) := by decide +kernel
theorem dX7_does_35 : decode cX7_does 35 = .ok (.istore 4, 2) := by decide +kernel
theorem dX7_does_37 : decode cX7_does 37 = .ok (.iload 4, 2) := by decide +kernel
theorem dX7_does_39 : decode cX7_does 39 = .ok (.ifCond .eq 12, 3) := by decide +kernel
theorem dX7_does_42 : decode cX7_does 42 = .ok (.aload_n 0, 1) := by decide +kernel
theorem dX7_does_43 : decode cX7_does 43 = .ok (.iload 4, 2) := by decide +kernel
theorem dX7_does_45 : decode cX7_does 45 = .ok (.invokevirtual 121, 3) := by decide +kernel
theorem dX7_does_48 : decode cX7_does 48 = .ok (.goto 8, 3) := by decide +kernel
theorem dX7_does_51 : decode cX7_does 51 = .ok (.aload_n 0, 1) := by decide +kernel
theorem dX7_does_52 : decode cX7_does 52 = .ok (.iload_n 3, 1) := by decide +kernel
theorem dX7_does_53 : decode cX7_does 53 = .ok (.invokevirtual 136, 3) := by decide +kernel
theorem dX7_does_56 : decode cX7_does 56 = .ok (.lreturn, 1) := by decide +kernel
set_option maxRecDepth 20000 in
theorem dX7_share_0 : decode cX7_share 0 = .ok (.aload_n 0, 1) := by decide +kernel
theorem dX7_share_1 : decode cX7_share 1 = .ok (.iload_n 1, 1) := by decide +kernel
theorem dX7_share_2 : decode cX7_share 2 = .ok (.iload_n 2, 1) := by decide +kernel
theorem dX7_share_3 : decode cX7_share 3 = .ok (.invokevirtual 193, 3) := by decide +kernel
theorem dX7_share_6 : decode cX7_share 6 = .ok (.istore_n 3, 1) := by decide +kernel
theorem dX7_share_7 : decode cX7_share 7 = .ok (.iload_n 3, 1) := by decide +kernel
theorem dX7_share_8 : decode cX7_share 8 = .ok (.ifCond .ne 15, 3) := by decide +kernel
theorem dX7_share_11 : decode cX7_share 11 = .ok (.aload_n 0, 1) := by decide +kernel
theorem dX7_share_12 : decode cX7_share 12 = .ok (.iload_n 1, 1) := by decide +kernel
theorem dX7_share_13 : decode cX7_share 13 = .ok (.iconst (-1), 1) := by decide +kernel
theorem dX7_share_14 : decode cX7_share 14 = .ok (.invokevirtual 196, 3) := by decide +kernel
theorem dX7_share_17 : decode cX7_share 17 = .ok (.ifCond .ne 6, 3) := by decide +kernel
theorem dX7_share_20 : decode cX7_share 20 = .ok (.bipush (-3), 2) := by decide +kernel
theorem dX7_share_22 : decode cX7_share 22 = .ok (.istore_n 3, 1) := by decide +kernel
theorem dX7_share_23 : decode cX7_share 23 = .ok (.iload_n 3, 1) := by decide +kernel
theorem dX7_share_24 : decode cX7_share 24 = .ok (.ifCond .eq 11, 3) := by decide +kernel
theorem dX7_share_27 : decode cX7_share 27 = .ok (.aload_n 0, 1) := by decide +kernel
theorem dX7_share_28 : decode cX7_share 28 = .ok (.iload_n 3, 1) := by decide +kernel
theorem dX7_share_29 : decode cX7_share 29 = .ok (.invokevirtual 121, 3) := by decide +kernel
theorem dX7_share_32 : decode cX7_share 32 = .ok (.goto 8, 3) := by decide +kernel
theorem dX7_share_35 : decode cX7_share 35 = .ok (.aload_n 0, 1) := by decide +kernel
theorem dX7_share_36 : decode cX7_share 36 = .ok (.iload_n 2, 1) := by decide +kernel
theorem dX7_share_37 : decode cX7_share 37 = .ok (.invokevirtual 136, 3) := by decide +kernel
theorem dX7_share_40 : decode cX7_share 40 = .ok (.lreturn, 1) := by decide +kernel
set_option maxRecDepth 20000 in
theorem dX7_serving_0 : decode cX7_serving 0 = .ok (.aload_n 0, 1) := by decide +kernel
theorem dX7_serving_1 : decode cX7_serving 1 = .ok (.iload_n 1, 1) := by decide +kernel
theorem dX7_serving_2 : decode cX7_serving 2 = .ok (.iload_n 3, 1) := by decide +kernel
theorem dX7_serving_3 : decode cX7_serving 3 = .ok (.invokevirtual 193, 3) := by decide +kernel
theorem dX7_serving_6 : decode cX7_serving 6 = .ok (.istore 4, 2) := by decide +kernel
theorem dX7_serving_8 : decode cX7_serving 8 = .ok (.iload 4, 2) := by decide +kernel
theorem dX7_serving_10 : decode cX7_serving 10 = .ok (.ifCond .ne 9, 3) := by decide +kernel
theorem dX7_serving_13 : decode cX7_serving 13 = .ok (.iload_n 2, 1) := by decide +kernel
theorem dX7_serving_14 : decode cX7_serving 14 = .ok (.invokestatic 183, 3) := by decide +kernel
theorem dX7_serving_17 : decode cX7_serving 17 = .ok (.istore 4, 2) := by decide +kernel
theorem dX7_serving_19 : decode cX7_serving 19 = .ok (.iload 4, 2) := by decide +kernel
theorem dX7_serving_21 : decode cX7_serving 21 = .ok (.ifCond .ne 25, 3) := by decide +kernel
theorem dX7_serving_24 : decode cX7_serving 24 = .ok (.aload_n 0, 1) := by decide +kernel
theorem dX7_serving_25 : decode cX7_serving 25 = .ok (.iload_n 1, 1) := by decide +kernel
theorem dX7_serving_26 : decode cX7_serving 26 = .ok (.iconst (-1), 1) := by decide +kernel
theorem dX7_serving_27 : decode cX7_serving 27 = .ok (.invokevirtual 196, 3) := by decide +kernel
theorem dX7_serving_30 : decode cX7_serving 30 = .ok (.ifCond .eq 12, 3) := by decide +kernel
theorem dX7_serving_33 : decode cX7_serving 33 = .ok (.aload_n 0, 1) := by decide +kernel
theorem dX7_serving_34 : decode cX7_serving 34 = .ok (.getfield 111, 3) := by decide +kernel
theorem dX7_serving_37 : decode cX7_serving 37 = .ok (.lconst 0, 1) := by decide +kernel
theorem dX7_serving_38 : decode cX7_serving 38 = .ok (.lcmp, 1) := by decide +kernel
theorem dX7_serving_39 : decode cX7_serving 39 = .ok (.ifCond .ne 7, 3) := by decide +kernel
theorem dX7_serving_42 : decode cX7_serving 42 = .ok (.bipush (-3), 2) := by decide +kernel
theorem dX7_serving_44 : decode cX7_serving 44 = .ok (.istore 4, 2) := by decide +kernel
theorem dX7_serving_46 : decode cX7_serving 46 = .ok (.iload 4, 2) := by decide +kernel
theorem dX7_serving_48 : decode cX7_serving 48 = .ok (.ifCond .eq 10, 3) := by decide +kernel
theorem dX7_serving_51 : decode cX7_serving 51 = .ok (.aload_n 0, 1) := by decide +kernel
theorem dX7_serving_52 : decode cX7_serving 52 = .ok (.iload 4, 2) := by decide +kernel
theorem dX7_serving_54 : decode cX7_serving 54 = .ok (.invokevirtual 121, 3) := by decide +kernel
theorem dX7_serving_57 : decode cX7_serving 57 = .ok (.lreturn, 1) := by decide +kernel
theorem dX7_serving_58 : decode cX7_serving 58 = .ok (.aload_n 0, 1) := by decide +kernel
theorem dX7_serving_59 : decode cX7_serving 59 = .ok (.getfield 111, 3) := by decide +kernel
theorem dX7_serving_62 : decode cX7_serving 62 = .ok (.lstore 5, 2) := by decide +kernel
theorem dX7_serving_64 : decode cX7_serving 64 = .ok (.aload_n 0, 1) := by decide +kernel
theorem dX7_serving_65 : decode cX7_serving 65 = .ok (.getfield 115, 3) := by decide +kernel
theorem dX7_serving_68 : decode cX7_serving 68 = .ok (.lstore 7, 2) := by decide +kernel
theorem dX7_serving_70 : decode cX7_serving 70 = .ok (.aload_n 0, 1) := by decide +kernel
theorem dX7_serving_71 : decode cX7_serving 71 = .ok (.iload_n 1, 1) := by decide +kernel
theorem dX7_serving_72 : decode cX7_serving 72 = .ok (.iload_n 2, 1) := by decide +kernel
theorem dX7_serving_73 : decode cX7_serving 73 = .ok (.invokevirtual 196, 3) := by decide +kernel
theorem dX7_serving_76 : decode cX7_serving 76 = .ok (.pop, 1) := by decide +kernel
theorem dX7_serving_77 : decode cX7_serving 77 = .ok (.aload_n 0, 1) := by decide +kernel
theorem dX7_serving_78 : decode cX7_serving 78 = .ok (.aload_n 0, 1) := by decide +kernel
theorem dX7_serving_79 : decode cX7_serving 79 = .ok (.getfield 111, 3) := by decide +kernel
theorem dX7_serving_82 : decode cX7_serving 82 = .ok (.lload 7, 2) := by decide +kernel
theorem dX7_serving_84 : decode cX7_serving 84 = .ok (.lmul, 1) := by decide +kernel
theorem dX7_serving_85 : decode cX7_serving 85 = .ok (.aload_n 0, 1) := by decide +kernel
theorem dX7_serving_86 : decode cX7_serving 86 = .ok (.getfield 115, 3) := by decide +kernel
theorem dX7_serving_89 : decode cX7_serving 89 = .ok (.lload 5, 2) := by decide +kernel
theorem dX7_serving_91 : decode cX7_serving 91 = .ok (.lmul, 1) := by decide +kernel
theorem dX7_serving_92 : decode cX7_serving 92 = .ok (.invokevirtual 132, 3) := by decide +kernel
theorem dX7_serving_95 : decode cX7_serving 95 = .ok (.aload_n 0, 1) := by decide +kernel
theorem dX7_serving_96 : decode cX7_serving 96 = .ok (.iload_n 3, 1) := by decide +kernel
theorem dX7_serving_97 : decode cX7_serving 97 = .ok (.invokevirtual 136, 3) := by decide +kernel
theorem dX7_serving_100 : decode cX7_serving 100 = .ok (.lreturn, 1) := by decide +kernel
set_option maxRecDepth 20000 in
theorem dX7_truly_0 : decode cX7_truly 0 = .ok (.aload_n 0, 1) := by decide +kernel
theorem dX7_truly_1 : decode cX7_truly 1 = .ok (.iload_n 1, 1) := by decide +kernel
theorem dX7_truly_2 : decode cX7_truly 2 = .ok (.iload_n 3, 1) := by decide +kernel
theorem dX7_truly_3 : decode cX7_truly 3 = .ok (.invokevirtual 193, 3) := by decide +kernel
theorem dX7_truly_6 : decode cX7_truly 6 = .ok (.istore 4, 2) := by decide +kernel
theorem dX7_truly_8 : decode cX7_truly 8 = .ok (.iload 4, 2) := by decide +kernel
theorem dX7_truly_10 : decode cX7_truly 10 = .ok (.ifCond .ne 9, 3) := by decide +kernel
theorem dX7_truly_13 : decode cX7_truly 13 = .ok (.iload_n 2, 1) := by decide +kernel
theorem dX7_truly_14 : decode cX7_truly 14 = .ok (.invokestatic 183, 3) := by decide +kernel
theorem dX7_truly_17 : decode cX7_truly 17 = .ok (.istore 4, 2) := by decide +kernel
theorem dX7_truly_19 : decode cX7_truly 19 = .ok (.iconst 0, 1) := by decide +kernel
theorem dX7_truly_20 : decode cX7_truly 20 = .ok (.istore 5, 2) := by decide +kernel
theorem dX7_truly_22 : decode cX7_truly 22 = .ok (.iconst 0, 1) := by decide +kernel
theorem dX7_truly_23 : decode cX7_truly 23 = .ok (.istore 6, 2) := by decide +kernel
theorem dX7_truly_25 : decode cX7_truly 25 = .ok (.iload 6, 2) := by decide +kernel
theorem dX7_truly_27 : decode cX7_truly 27 = .ok (.aload_n 0, 1) := by decide +kernel
theorem dX7_truly_28 : decode cX7_truly 28 = .ok (.getfield 163, 3) := by decide +kernel
theorem dX7_truly_31 : decode cX7_truly 31 = .ok (.if_icmp .ge 64, 3) := by decide +kernel
theorem dX7_truly_34 : decode cX7_truly 34 = .ok (.iload 4, 2) := by decide +kernel
theorem dX7_truly_36 : decode cX7_truly 36 = .ok (.ifCond .ne 59, 3) := by decide +kernel
theorem dX7_truly_39 : decode cX7_truly 39 = .ok (.iload 5, 2) := by decide +kernel
theorem dX7_truly_41 : decode cX7_truly 41 = .ok (.ifCond .ne 41, 3) := by decide +kernel
theorem dX7_truly_44 : decode cX7_truly 44 = .ok (.aload_n 0, 1) := by decide +kernel
theorem dX7_truly_45 : decode cX7_truly 45 = .ok (.getfield 44, 3) := by decide +kernel
theorem dX7_truly_48 : decode cX7_truly 48 = .ok (.iload 6, 2) := by decide +kernel
theorem dX7_truly_50 : decode cX7_truly 50 = .ok (.iaload, 1) := by decide +kernel
theorem dX7_truly_51 : decode cX7_truly 51 = .ok (.ifCond .eq 31, 3) := by decide +kernel
theorem dX7_truly_54 : decode cX7_truly 54 = .ok (.aload_n 0, 1) := by decide +kernel
theorem dX7_truly_55 : decode cX7_truly 55 = .ok (.getfield 44, 3) := by decide +kernel
theorem dX7_truly_58 : decode cX7_truly 58 = .ok (.iload 6, 2) := by decide +kernel
theorem dX7_truly_60 : decode cX7_truly 60 = .ok (.iaload, 1) := by decide +kernel
theorem dX7_truly_61 : decode cX7_truly 61 = .ok (.iconst 5, 1) := by decide +kernel
theorem dX7_truly_62 : decode cX7_truly 62 = .ok (.if_icmp .ne 24, 3) := by decide +kernel
theorem dX7_truly_65 : decode cX7_truly 65 = .ok (.aload_n 0, 1) := by decide +kernel
theorem dX7_truly_66 : decode cX7_truly 66 = .ok (.iload_n 1, 1) := by decide +kernel
theorem dX7_truly_67 : decode cX7_truly 67 = .ok (.aload_n 0, 1) := by decide +kernel
theorem dX7_truly_68 : decode cX7_truly 68 = .ok (.getfield 47, 3) := by decide +kernel
theorem dX7_truly_71 : decode cX7_truly 71 = .ok (.iload 6, 2) := by decide +kernel
theorem dX7_truly_73 : decode cX7_truly 73 = .ok (.iaload, 1) := by decide +kernel
theorem dX7_truly_74 : decode cX7_truly 74 = .ok (.invokevirtual 100, 3) := by decide +kernel
theorem dX7_truly_77 : decode cX7_truly 77 = .ok (.iconst 2, 1) := by decide +kernel
theorem dX7_truly_78 : decode cX7_truly 78 = .ok (.irem, 1) := by decide +kernel
theorem dX7_truly_79 : decode cX7_truly 79 = .ok (.ifCond .ne 7, 3) := by decide +kernel
theorem dX7_truly_82 : decode cX7_truly 82 = .ok (.iconst 1, 1) := by decide +kernel
theorem dX7_truly_83 : decode cX7_truly 83 = .ok (.goto 4, 3) := by decide +kernel
theorem dX7_truly_86 : decode cX7_truly 86 = .ok (.iconst 0, 1) := by decide +kernel
theorem dX7_truly_87 : decode cX7_truly 87 = .ok (.istore 5, 2) := by decide +kernel
theorem dX7_truly_89 : decode cX7_truly 89 = .ok (.iinc 6 1, 3) := by decide +kernel
theorem dX7_truly_92 : decode cX7_truly 92 = .ok (.goto (-67), 3) := by decide +kernel
theorem dX7_truly_95 : decode cX7_truly 95 = .ok (.iload 4, 2) := by decide +kernel
theorem dX7_truly_97 : decode cX7_truly 97 = .ok (.ifCond .ne 12, 3) := by decide +kernel
theorem dX7_truly_100 : decode cX7_truly 100 = .ok (.iload 5, 2) := by decide +kernel
theorem dX7_truly_102 : decode cX7_truly 102 = .ok (.ifCond .ne 7, 3) := by decide +kernel
theorem dX7_truly_105 : decode cX7_truly 105 = .ok (.bipush (-3), 2) := by decide +kernel
theorem dX7_truly_107 : decode cX7_truly 107 = .ok (.istore 4, 2) := by decide +kernel
theorem dX7_truly_109 : decode cX7_truly 109 = .ok (.iload 4, 2) := by decide +kernel
theorem dX7_truly_111 : decode cX7_truly 111 = .ok (.ifCond .eq 12, 3) := by decide +kernel
theorem dX7_truly_114 : decode cX7_truly 114 = .ok (.aload_n 0, 1) := by decide +kernel
theorem dX7_truly_115 : decode cX7_truly 115 = .ok (.iload 4, 2) := by decide +kernel
theorem dX7_truly_117 : decode cX7_truly 117 = .ok (.invokevirtual 121, 3) := by decide +kernel
theorem dX7_truly_120 : decode cX7_truly 120 = .ok (.goto 25, 3) := by decide +kernel
theorem dX7_truly_123 : decode cX7_truly 123 = .ok (.iload_n 3, 1) := by decide +kernel
theorem dX7_truly_124 : decode cX7_truly 124 = .ok (.ifCond .ne 20, 3) := by decide +kernel
theorem dX7_truly_127 : decode cX7_truly 127 = .ok (.aload_n 0, 1) := by decide +kernel
theorem dX7_truly_128 : decode cX7_truly 128 = .ok (.iload_n 2, 1) := by decide +kernel
theorem dX7_truly_129 : decode cX7_truly 129 = .ok (.invokevirtual 180, 3) := by decide +kernel
theorem dX7_truly_132 : decode cX7_truly 132 = .ok (.ineg, 1) := by decide +kernel
theorem dX7_truly_133 : decode cX7_truly 133 = .ok (.aload_n 0, 1) := by decide +kernel
theorem dX7_truly_134 : decode cX7_truly 134 = .ok (.getfield 53, 3) := by decide +kernel
theorem dX7_truly_137 : decode cX7_truly 137 = .ok (.iconst 4, 1) := by decide +kernel
theorem dX7_truly_138 : decode cX7_truly 138 = .ok (.iaload, 1) := by decide +kernel
theorem dX7_truly_139 : decode cX7_truly 139 = .ok (.isub, 1) := by decide +kernel
theorem dX7_truly_140 : decode cX7_truly 140 = .ok (.i2l, 1) := by decide +kernel
theorem dX7_truly_141 : decode cX7_truly 141 = .ok (.goto 4, 3) := by decide +kernel
theorem dX7_truly_144 : decode cX7_truly 144 = .ok (.lconst 1, 1) := by decide +kernel
theorem dX7_truly_145 : decode cX7_truly 145 = .ok (.lreturn, 1) := by decide +kernel
set_option maxRecDepth 20000 in
theorem dX7_faded_0 : decode cX7_faded 0 = .ok (.iload_n 1, 1) := by decide +kernel
theorem dX7_faded_1 : decode cX7_faded 1 = .ok (.invokestatic 77, 3) := by decide +kernel
theorem dX7_faded_4 : decode cX7_faded 4 = .ok (.ifCond .ne 9, 3) := by decide +kernel
theorem dX7_faded_7 : decode cX7_faded 7 = .ok (.aload_n 0, 1) := by decide +kernel
theorem dX7_faded_8 : decode cX7_faded 8 = .ok (.iconst (-1), 1) := by decide +kernel
theorem dX7_faded_9 : decode cX7_faded 9 = .ok (.invokevirtual 81, 3) := by decide +kernel
theorem dX7_faded_12 : decode cX7_faded 12 = .ok (.ireturn, 1) := by decide +kernel
theorem dX7_faded_13 : decode cX7_faded 13 = .ok (.iload_n 2, 1) := by decide +kernel
theorem dX7_faded_14 : decode cX7_faded 14 = .ok (.iconst 0, 1) := by decide +kernel
theorem dX7_faded_15 : decode cX7_faded 15 = .ok (.sipush 9999, 3) := by decide +kernel
theorem dX7_faded_18 : decode cX7_faded 18 = .ok (.invokestatic 104, 3) := by decide +kernel
theorem dX7_faded_21 : decode cX7_faded 21 = .ok (.istore_n 3, 1) := by decide +kernel
theorem dX7_faded_22 : decode cX7_faded 22 = .ok (.iload_n 3, 1) := by decide +kernel
theorem dX7_faded_23 : decode cX7_faded 23 = .ok (.ifCond .eq 9, 3) := by decide +kernel
theorem dX7_faded_26 : decode cX7_faded 26 = .ok (.aload_n 0, 1) := by decide +kernel
theorem dX7_faded_27 : decode cX7_faded 27 = .ok (.iload_n 3, 1) := by decide +kernel
theorem dX7_faded_28 : decode cX7_faded 28 = .ok (.invokevirtual 81, 3) := by decide +kernel
theorem dX7_faded_31 : decode cX7_faded 31 = .ok (.ireturn, 1) := by decide +kernel
theorem dX7_faded_32 : decode cX7_faded 32 = .ok (.iconst 0, 1) := by decide +kernel
theorem dX7_faded_33 : decode cX7_faded 33 = .ok (.istore 4, 2) := by decide +kernel
theorem dX7_faded_35 : decode cX7_faded 35 = .ok (.iload 4, 2) := by decide +kernel
theorem dX7_faded_37 : decode cX7_faded 37 = .ok (.bipush 40, 2) := by decide +kernel
theorem dX7_faded_39 : decode cX7_faded 39 = .ok (.if_icmp .gt 57, 3) := by decide +kernel
theorem dX7_faded_42 : decode cX7_faded 42 = .ok (.aload_n 0, 1) := by decide +kernel
theorem dX7_faded_43 : decode cX7_faded 43 = .ok (.iload_n 1, 1) := by decide +kernel
theorem dX7_faded_44 : decode cX7_faded 44 = .ok (.iload 4, 2) := by decide +kernel
theorem dX7_faded_46 : decode cX7_faded 46 = .ok (.invokevirtual 196, 3) := by decide +kernel
theorem dX7_faded_49 : decode cX7_faded 49 = .ok (.ifCond .ne 6, 3) := by decide +kernel
theorem dX7_faded_52 : decode cX7_faded 52 = .ok (.bipush (-9), 2) := by decide +kernel
theorem dX7_faded_54 : decode cX7_faded 54 = .ok (.ireturn, 1) := by decide +kernel
theorem dX7_faded_55 : decode cX7_faded 55 = .ok (.aload_n 0, 1) := by decide +kernel
theorem dX7_faded_56 : decode cX7_faded 56 = .ok (.getfield 111, 3) := by decide +kernel
theorem dX7_faded_59 : decode cX7_faded 59 = .ok (.lconst 0, 1) := by decide +kernel
theorem dX7_faded_60 : decode cX7_faded 60 = .ok (.lcmp, 1) := by decide +kernel
theorem dX7_faded_61 : decode cX7_faded 61 = .ok (.ifCond .ge 11, 3) := by decide +kernel
theorem dX7_faded_64 : decode cX7_faded 64 = .ok (.aload_n 0, 1) := by decide +kernel
theorem dX7_faded_65 : decode cX7_faded 65 = .ok (.getfield 111, 3) := by decide +kernel
theorem dX7_faded_68 : decode cX7_faded 68 = .ok (.lneg, 1) := by decide +kernel
theorem dX7_faded_69 : decode cX7_faded 69 = .ok (.goto 7, 3) := by decide +kernel
theorem dX7_faded_72 : decode cX7_faded 72 = .ok (.aload_n 0, 1) := by decide +kernel
theorem dX7_faded_73 : decode cX7_faded 73 = .ok (.getfield 111, 3) := by decide +kernel
theorem dX7_faded_76 : decode cX7_faded 76 = .ok (.iload_n 2, 1) := by decide +kernel
theorem dX7_faded_77 : decode cX7_faded 77 = .ok (.i2l, 1) := by decide +kernel
theorem dX7_faded_78 : decode cX7_faded 78 = .ok (.aload_n 0, 1) := by decide +kernel
theorem dX7_faded_79 : decode cX7_faded 79 = .ok (.getfield 115, 3) := by decide +kernel
theorem dX7_faded_82 : decode cX7_faded 82 = .ok (.lmul, 1) := by decide +kernel
theorem dX7_faded_83 : decode cX7_faded 83 = .ok (.lcmp, 1) := by decide +kernel
theorem dX7_faded_84 : decode cX7_faded 84 = .ok (.ifCond .gt 6, 3) := by decide +kernel
theorem dX7_faded_87 : decode cX7_faded 87 = .ok (.iload 4, 2) := by decide +kernel
theorem dX7_faded_89 : decode cX7_faded 89 = .ok (.ireturn, 1) := by decide +kernel
theorem dX7_faded_90 : decode cX7_faded 90 = .ok (.iinc 4 1, 3) := by decide +kernel
theorem dX7_faded_93 : decode cX7_faded 93 = .ok (.goto (-58), 3) := by decide +kernel
theorem dX7_faded_96 : decode cX7_faded 96 = .ok (.bipush (-9), 2) := by decide +kernel
theorem dX7_faded_98 : decode cX7_faded 98 = .ok (.ireturn, 1) := by decide +kernel
set_option maxRecDepth 20000 in
theorem dX7_bornIn_0 : decode cX7_bornIn 0 = .ok (.iconst 0, 1) := by decide +kernel
theorem dX7_bornIn_1 : decode cX7_bornIn 1 = .ok (.istore_n 2, 1) := by decide +kernel
theorem dX7_bornIn_2 : decode cX7_bornIn 2 = .ok (.iconst 0, 1) := by decide +kernel
theorem dX7_bornIn_3 : decode cX7_bornIn 3 = .ok (.istore_n 3, 1) := by decide +kernel
theorem dX7_bornIn_4 : decode cX7_bornIn 4 = .ok (.iload_n 3, 1) := by decide +kernel
theorem dX7_bornIn_5 : decode cX7_bornIn 5 = .ok (.aload_n 0, 1) := by decide +kernel
theorem dX7_bornIn_6 : decode cX7_bornIn 6 = .ok (.getfield 163, 3) := by decide +kernel
theorem dX7_bornIn_9 : decode cX7_bornIn 9 = .ok (.if_icmp .ge 31, 3) := by decide +kernel
theorem dX7_bornIn_12 : decode cX7_bornIn 12 = .ok (.iload_n 2, 1) := by decide +kernel
theorem dX7_bornIn_13 : decode cX7_bornIn 13 = .ok (.aload_n 0, 1) := by decide +kernel
theorem dX7_bornIn_14 : decode cX7_bornIn 14 = .ok (.aload_n 0, 1) := by decide +kernel
theorem dX7_bornIn_15 : decode cX7_bornIn 15 = .ok (.getfield 47, 3) := by decide +kernel
theorem dX7_bornIn_18 : decode cX7_bornIn 18 = .ok (.iload_n 3, 1) := by decide +kernel
theorem dX7_bornIn_19 : decode cX7_bornIn 19 = .ok (.iaload, 1) := by decide +kernel
theorem dX7_bornIn_20 : decode cX7_bornIn 20 = .ok (.invokevirtual 199, 3) := by decide +kernel
theorem dX7_bornIn_23 : decode cX7_bornIn 23 = .ok (.iload_n 1, 1) := by decide +kernel
theorem dX7_bornIn_24 : decode cX7_bornIn 24 = .ok (.if_icmp .ne 7, 3) := by decide +kernel
theorem dX7_bornIn_27 : decode cX7_bornIn 27 = .ok (.iconst 1, 1) := by decide +kernel
theorem dX7_bornIn_28 : decode cX7_bornIn 28 = .ok (.goto 4, 3) := by decide +kernel
theorem dX7_bornIn_31 : decode cX7_bornIn 31 = .ok (.iconst 0, 1) := by decide +kernel
theorem dX7_bornIn_32 : decode cX7_bornIn 32 = .ok (.iadd, 1) := by decide +kernel
theorem dX7_bornIn_33 : decode cX7_bornIn 33 = .ok (.istore_n 2, 1) := by decide +kernel
theorem dX7_bornIn_34 : decode cX7_bornIn 34 = .ok (.iinc 3 1, 3) := by decide +kernel
theorem dX7_bornIn_37 : decode cX7_bornIn 37 = .ok (.goto (-33), 3) := by decide +kernel
theorem dX7_bornIn_40 : decode cX7_bornIn 40 = .ok (.iload_n 2, 1) := by decide +kernel
theorem dX7_bornIn_41 : decode cX7_bornIn 41 = .ok (.ireturn, 1) := by decide +kernel
set_option maxRecDepth 20000 in
theorem dX7_group_0 : decode cX7_group 0 = .ok (.iload_n 1, 1) := by decide +kernel
theorem dX7_group_1 : decode cX7_group 1 = .ok (.invokestatic 77, 3) := by decide +kernel
theorem dX7_group_4 : decode cX7_group 4 = .ok (.ifCond .eq 10, 3) := by decide +kernel
theorem dX7_group_7 : decode cX7_group 7 = .ok (.iload_n 2, 1) := by decide +kernel
theorem dX7_group_8 : decode cX7_group 8 = .ok (.invokestatic 118, 3) := by decide +kernel
theorem dX7_group_11 : decode cX7_group 11 = .ok (.ifCond .ne 9, 3) := by decide +kernel
theorem dX7_group_14 : decode cX7_group 14 = .ok (.aload_n 0, 1) := by decide +kernel
theorem dX7_group_15 : decode cX7_group 15 = .ok (.iconst (-1), 1) := by decide +kernel
theorem dX7_group_16 : decode cX7_group 16 = .ok (.invokevirtual 121, 3) := by decide +kernel
theorem dX7_group_19 : decode cX7_group 19 = .ok (.lreturn, 1) := by decide +kernel
theorem dX7_group_20 : decode cX7_group 20 = .ok (.iload 4, 2) := by decide +kernel
theorem dX7_group_22 : decode cX7_group 22 = .ok (.invokestatic 125, 3) := by decide +kernel
theorem dX7_group_25 : decode cX7_group 25 = .ok (.ifCond .ne 10, 3) := by decide +kernel
theorem dX7_group_28 : decode cX7_group 28 = .ok (.aload_n 0, 1) := by decide +kernel
theorem dX7_group_29 : decode cX7_group 29 = .ok (.bipush (-2), 2) := by decide +kernel
theorem dX7_group_31 : decode cX7_group 31 = .ok (.invokevirtual 121, 3) := by decide +kernel
theorem dX7_group_34 : decode cX7_group 34 = .ok (.lreturn, 1) := by decide +kernel
theorem dX7_group_35 : decode cX7_group 35 = .ok (.iload_n 3, 1) := by decide +kernel
theorem dX7_group_36 : decode cX7_group 36 = .ok (.invokestatic 183, 3) := by decide +kernel
theorem dX7_group_39 : decode cX7_group 39 = .ok (.istore 5, 2) := by decide +kernel
theorem dX7_group_41 : decode cX7_group 41 = .ok (.iload 5, 2) := by decide +kernel
theorem dX7_group_43 : decode cX7_group 43 = .ok (.ifCond .eq 10, 3) := by decide +kernel
theorem dX7_group_46 : decode cX7_group 46 = .ok (.aload_n 0, 1) := by decide +kernel
theorem dX7_group_47 : decode cX7_group 47 = .ok (.iload 5, 2) := by decide +kernel
theorem dX7_group_49 : decode cX7_group 49 = .ok (.invokevirtual 121, 3) := by decide +kernel
theorem dX7_group_52 : decode cX7_group 52 = .ok (.lreturn, 1) := by decide +kernel
theorem dX7_group_53 : decode cX7_group 53 = .ok (.aload_n 0, 1) := by decide +kernel
theorem dX7_group_54 : decode cX7_group 54 = .ok (.iload_n 2, 1) := by decide +kernel
theorem dX7_group_55 : decode cX7_group 55 = .ok (.invokevirtual 202, 3) := by decide +kernel
theorem dX7_group_58 : decode cX7_group 58 = .ok (.aload_n 0, 1) := by decide +kernel
theorem dX7_group_59 : decode cX7_group 59 = .ok (.getfield 63, 3) := by decide +kernel
theorem dX7_group_62 : decode cX7_group 62 = .ok (.if_icmp .ge 16, 3) := by decide +kernel
theorem dX7_group_65 : decode cX7_group 65 = .ok (.iload 4, 2) := by decide +kernel
theorem dX7_group_67 : decode cX7_group 67 = .ok (.ifCond .ne 9, 3) := by decide +kernel
theorem dX7_group_70 : decode cX7_group 70 = .ok (.ldc2_w 205, 3) := by decide +kernel
theorem dX7_group_73 : decode cX7_group 73 = .ok (.goto 4, 3) := by decide +kernel
theorem dX7_group_76 : decode cX7_group 76 = .ok (.lconst 1, 1) := by decide +kernel
theorem dX7_group_77 : decode cX7_group 77 = .ok (.lreturn, 1) := by decide +kernel
theorem dX7_group_78 : decode cX7_group 78 = .ok (.lconst 0, 1) := by decide +kernel
theorem dX7_group_79 : decode cX7_group 79 = .ok (.lstore 6, 2) := by decide +kernel
theorem dX7_group_81 : decode cX7_group 81 = .ok (.iconst 0, 1) := by decide +kernel
theorem dX7_group_82 : decode cX7_group 82 = .ok (.istore 8, 2) := by decide +kernel
theorem dX7_group_84 : decode cX7_group 84 = .ok (.iload 8, 2) := by decide +kernel
theorem dX7_group_86 : decode cX7_group 86 = .ok (.aload_n 0, 1) := by decide +kernel
theorem dX7_group_87 : decode cX7_group 87 = .ok (.getfield 163, 3) := by decide +kernel
theorem dX7_group_90 : decode cX7_group 90 = .ok (.if_icmp .ge 41, 3) := by decide +kernel
theorem dX7_group_93 : decode cX7_group 93 = .ok (.lload 6, 2) := by decide +kernel
theorem dX7_group_95 : decode cX7_group 95 = .ok (.aload_n 0, 1) := by decide +kernel
theorem dX7_group_96 : decode cX7_group 96 = .ok (.aload_n 0, 1) := by decide +kernel
theorem dX7_group_97 : decode cX7_group 97 = .ok (.getfield 47, 3) := by decide +kernel
theorem dX7_group_100 : decode cX7_group 100 = .ok (.iload 8, 2) := by decide +kernel
theorem dX7_group_102 : decode cX7_group 102 = .ok (.iaload, 1) := by decide +kernel
theorem dX7_group_103 : decode cX7_group 103 = .ok (.invokevirtual 199, 3) := by decide +kernel
theorem dX7_group_106 : decode cX7_group 106 = .ok (.iload_n 2, 1) := by decide +kernel
theorem dX7_group_107 : decode cX7_group 107 = .ok (.if_icmp .ne 14, 3) := by decide +kernel
theorem dX7_group_110 : decode cX7_group 110 = .ok (.aload_n 0, 1) := by decide +kernel
theorem dX7_group_111 : decode cX7_group 111 = .ok (.iload_n 1, 1) := by decide +kernel
theorem dX7_group_112 : decode cX7_group 112 = .ok (.iload 8, 2) := by decide +kernel
theorem dX7_group_114 : decode cX7_group 114 = .ok (.iload_n 3, 1) := by decide +kernel
theorem dX7_group_115 : decode cX7_group 115 = .ok (.invokevirtual 186, 3) := by decide +kernel
theorem dX7_group_118 : decode cX7_group 118 = .ok (.goto 4, 3) := by decide +kernel
theorem dX7_group_121 : decode cX7_group 121 = .ok (.lconst 0, 1) := by decide +kernel
theorem dX7_group_122 : decode cX7_group 122 = .ok (.ladd, 1) := by decide +kernel
theorem dX7_group_123 : decode cX7_group 123 = .ok (.lstore 6, 2) := by decide +kernel
theorem dX7_group_125 : decode cX7_group 125 = .ok (.iinc 8 1, 3) := by decide +kernel
theorem dX7_group_128 : decode cX7_group 128 = .ok (.goto (-44), 3) := by decide +kernel
theorem dX7_group_131 : decode cX7_group 131 = .ok (.aload_n 0, 1) := by decide +kernel
theorem dX7_group_132 : decode cX7_group 132 = .ok (.lload 6, 2) := by decide +kernel
theorem dX7_group_134 : decode cX7_group 134 = .ok (.aload_n 0, 1) := by decide +kernel
theorem dX7_group_135 : decode cX7_group 135 = .ok (.iload_n 2, 1) := by decide +kernel
theorem dX7_group_136 : decode cX7_group 136 = .ok (.invokevirtual 202, 3) := by decide +kernel
theorem dX7_group_139 : decode cX7_group 139 = .ok (.i2l, 1) := by decide +kernel
theorem dX7_group_140 : decode cX7_group 140 = .ok (.invokevirtual 132, 3) := by decide +kernel
theorem dX7_group_143 : decode cX7_group 143 = .ok (.aload_n 0, 1) := by decide +kernel
theorem dX7_group_144 : decode cX7_group 144 = .ok (.iload 4, 2) := by decide +kernel
theorem dX7_group_146 : decode cX7_group 146 = .ok (.invokevirtual 136, 3) := by decide +kernel
theorem dX7_group_149 : decode cX7_group 149 = .ok (.lreturn, 1) := by decide +kernel
set_option maxRecDepth 20000 in
theorem dX7_least_0 : decode cX7_least 0 = .ok (.iload_n 1, 1) := by decide +kernel
theorem dX7_least_1 : decode cX7_least 1 = .ok (.iconst 1, 1) := by decide +kernel
theorem dX7_least_2 : decode cX7_least 2 = .ok (.bipush 60, 2) := by decide +kernel
theorem dX7_least_4 : decode cX7_least 4 = .ok (.invokestatic 104, 3) := by decide +kernel
theorem dX7_least_7 : decode cX7_least 7 = .ok (.istore_n 2, 1) := by decide +kernel
theorem dX7_least_8 : decode cX7_least 8 = .ok (.iload_n 2, 1) := by decide +kernel
theorem dX7_least_9 : decode cX7_least 9 = .ok (.ifCond .eq 9, 3) := by decide +kernel
theorem dX7_least_12 : decode cX7_least 12 = .ok (.aload_n 0, 1) := by decide +kernel
theorem dX7_least_13 : decode cX7_least 13 = .ok (.iload_n 2, 1) := by decide +kernel
theorem dX7_least_14 : decode cX7_least 14 = .ok (.invokevirtual 81, 3) := by decide +kernel
theorem dX7_least_17 : decode cX7_least 17 = .ok (.ireturn, 1) := by decide +kernel
theorem dX7_least_18 : decode cX7_least 18 = .ok (.aload_n 0, 1) := by decide +kernel
theorem dX7_least_19 : decode cX7_least 19 = .ok (.getfield 63, 3) := by decide +kernel
theorem dX7_least_22 : decode cX7_least 22 = .ok (.istore_n 3, 1) := by decide +kernel
theorem dX7_least_23 : decode cX7_least 23 = .ok (.aload_n 0, 1) := by decide +kernel
theorem dX7_least_24 : decode cX7_least 24 = .ok (.iload_n 1, 1) := by decide +kernel
theorem dX7_least_25 : decode cX7_least 25 = .ok (.putfield 63, 3) := by decide +kernel
theorem dX7_least_28 : decode cX7_least 28 = .ok (.iload_n 3, 1) := by decide +kernel
theorem dX7_least_29 : decode cX7_least 29 = .ok (.ireturn, 1) := by decide +kernel
set_option maxRecDepth 20000 in
theorem dX7_shown_0 : decode cX7_shown 0 = .ok (.iconst 0, 1) := by decide +kernel
theorem dX7_shown_1 : decode cX7_shown 1 = .ok (.istore_n 1, 1) := by decide +kernel
theorem dX7_shown_2 : decode cX7_shown 2 = .ok (.iconst 0, 1) := by decide +kernel
theorem dX7_shown_3 : decode cX7_shown 3 = .ok (.istore_n 2, 1) := by decide +kernel
theorem dX7_shown_4 : decode cX7_shown 4 = .ok (.iload_n 2, 1) := by decide +kernel
theorem dX7_shown_5 : decode cX7_shown 5 = .ok (.bipush 12, 2) := by decide +kernel
theorem dX7_shown_7 : decode cX7_shown 7 = .ok (.if_icmp .ge 31, 3) := by decide +kernel
theorem dX7_shown_10 : decode cX7_shown 10 = .ok (.iload_n 1, 1) := by decide +kernel
theorem dX7_shown_11 : decode cX7_shown 11 = .ok (.aload_n 0, 1) := by decide +kernel
theorem dX7_shown_12 : decode cX7_shown 12 = .ok (.iload_n 2, 1) := by decide +kernel
theorem dX7_shown_13 : decode cX7_shown 13 = .ok (.invokevirtual 202, 3) := by decide +kernel
theorem dX7_shown_16 : decode cX7_shown 16 = .ok (.aload_n 0, 1) := by decide +kernel
theorem dX7_shown_17 : decode cX7_shown 17 = .ok (.getfield 63, 3) := by decide +kernel
theorem dX7_shown_20 : decode cX7_shown 20 = .ok (.if_icmp .lt 9, 3) := by decide +kernel
theorem dX7_shown_23 : decode cX7_shown 23 = .ok (.iconst 1, 1) := by decide +kernel
theorem dX7_shown_24 : decode cX7_shown 24 = .ok (.iload_n 2, 1) := by decide +kernel
theorem dX7_shown_25 : decode cX7_shown 25 = .ok (.ishl, 1) := by decide +kernel
theorem dX7_shown_26 : decode cX7_shown 26 = .ok (.goto 4, 3) := by decide +kernel
theorem dX7_shown_29 : decode cX7_shown 29 = .ok (.iconst 0, 1) := by decide +kernel
theorem dX7_shown_30 : decode cX7_shown 30 = .ok (.ior, 1) := by decide +kernel
theorem dX7_shown_31 : decode cX7_shown 31 = .ok (.istore_n 1, 1) := by decide +kernel
theorem dX7_shown_32 : decode cX7_shown 32 = .ok (.iinc 2 1, 3) := by decide +kernel
theorem dX7_shown_35 : decode cX7_shown 35 = .ok (.goto (-31), 3) := by decide +kernel
theorem dX7_shown_38 : decode cX7_shown 38 = .ok (.iload_n 1, 1) := by decide +kernel
theorem dX7_shown_39 : decode cX7_shown 39 = .ok (.ireturn, 1) := by decide +kernel
set_option maxRecDepth 20000 in
theorem dX7_moved_0 : decode cX7_moved 0 = .ok (.iconst 0, 1) := by decide +kernel
theorem dX7_moved_1 : decode cX7_moved 1 = .ok (.istore_n 1, 1) := by decide +kernel
theorem dX7_moved_2 : decode cX7_moved 2 = .ok (.iconst 0, 1) := by decide +kernel
theorem dX7_moved_3 : decode cX7_moved 3 = .ok (.istore_n 2, 1) := by decide +kernel
theorem dX7_moved_4 : decode cX7_moved 4 = .ok (.iload_n 2, 1) := by decide +kernel
theorem dX7_moved_5 : decode cX7_moved 5 = .ok (.aload_n 0, 1) := by decide +kernel
theorem dX7_moved_6 : decode cX7_moved 6 = .ok (.getfield 163, 3) := by decide +kernel
theorem dX7_moved_9 : decode cX7_moved 9 = .ok (.if_icmp .ge 32, 3) := by decide +kernel
theorem dX7_moved_12 : decode cX7_moved 12 = .ok (.iload_n 1, 1) := by decide +kernel
theorem dX7_moved_13 : decode cX7_moved 13 = .ok (.aload_n 0, 1) := by decide +kernel
theorem dX7_moved_14 : decode cX7_moved 14 = .ok (.iconst 0, 1) := by decide +kernel
theorem dX7_moved_15 : decode cX7_moved 15 = .ok (.iload_n 2, 1) := by decide +kernel
theorem dX7_moved_16 : decode cX7_moved 16 = .ok (.invokevirtual 173, 3) := by decide +kernel
theorem dX7_moved_19 : decode cX7_moved 19 = .ok (.aload_n 0, 1) := by decide +kernel
theorem dX7_moved_20 : decode cX7_moved 20 = .ok (.iconst 1, 1) := by decide +kernel
theorem dX7_moved_21 : decode cX7_moved 21 = .ok (.iload_n 2, 1) := by decide +kernel
theorem dX7_moved_22 : decode cX7_moved 22 = .ok (.invokevirtual 173, 3) := by decide +kernel
theorem dX7_moved_25 : decode cX7_moved 25 = .ok (.if_icmp .eq 7, 3) := by decide +kernel
theorem dX7_moved_28 : decode cX7_moved 28 = .ok (.iconst 1, 1) := by decide +kernel
theorem dX7_moved_29 : decode cX7_moved 29 = .ok (.goto 4, 3) := by decide +kernel
theorem dX7_moved_32 : decode cX7_moved 32 = .ok (.iconst 0, 1) := by decide +kernel
theorem dX7_moved_33 : decode cX7_moved 33 = .ok (.iadd, 1) := by decide +kernel
theorem dX7_moved_34 : decode cX7_moved 34 = .ok (.istore_n 1, 1) := by decide +kernel
theorem dX7_moved_35 : decode cX7_moved 35 = .ok (.iinc 2 1, 3) := by decide +kernel
theorem dX7_moved_38 : decode cX7_moved 38 = .ok (.goto (-34), 3) := by decide +kernel
theorem dX7_moved_41 : decode cX7_moved 41 = .ok (.iload_n 1, 1) := by decide +kernel
theorem dX7_moved_42 : decode cX7_moved 42 = .ok (.ireturn, 1) := by decide +kernel
set_option maxRecDepth 20000 in
theorem dX7_cuts_0 : decode cX7_cuts 0 = .ok (.iload_n 1, 1) := by decide +kernel
theorem dX7_cuts_1 : decode cX7_cuts 1 = .ok (.invokestatic 77, 3) := by decide +kernel
theorem dX7_cuts_4 : decode cX7_cuts 4 = .ok (.ifCond .ne 9, 3) := by decide +kernel
theorem dX7_cuts_7 : decode cX7_cuts 7 = .ok (.aload_n 0, 1) := by decide +kernel
theorem dX7_cuts_8 : decode cX7_cuts 8 = .ok (.iconst (-1), 1) := by decide +kernel
theorem dX7_cuts_9 : decode cX7_cuts 9 = .ok (.invokevirtual 81, 3) := by decide +kernel
theorem dX7_cuts_12 : decode cX7_cuts 12 = .ok (.ireturn, 1) := by decide +kernel
theorem dX7_cuts_13 : decode cX7_cuts 13 = .ok (.iload_n 2, 1) := by decide +kernel
theorem dX7_cuts_14 : decode cX7_cuts 14 = .ok (.iconst 0, 1) := by decide +kernel
theorem dX7_cuts_15 : decode cX7_cuts 15 = .ok (.bipush 60, 2) := by decide +kernel
theorem dX7_cuts_17 : decode cX7_cuts 17 = .ok (.invokestatic 104, 3) := by decide +kernel
theorem dX7_cuts_20 : decode cX7_cuts 20 = .ok (.istore_n 3, 1) := by decide +kernel
theorem dX7_cuts_21 : decode cX7_cuts 21 = .ok (.iload_n 3, 1) := by decide +kernel
theorem dX7_cuts_22 : decode cX7_cuts 22 = .ok (.ifCond .eq 9, 3) := by decide +kernel
theorem dX7_cuts_25 : decode cX7_cuts 25 = .ok (.aload_n 0, 1) := by decide +kernel
theorem dX7_cuts_26 : decode cX7_cuts 26 = .ok (.iload_n 3, 1) := by decide +kernel
theorem dX7_cuts_27 : decode cX7_cuts 27 = .ok (.invokevirtual 81, 3) := by decide +kernel
theorem dX7_cuts_30 : decode cX7_cuts 30 = .ok (.ireturn, 1) := by decide +kernel
theorem dX7_cuts_31 : decode cX7_cuts 31 = .ok (.iconst 0, 1) := by decide +kernel
theorem dX7_cuts_32 : decode cX7_cuts 32 = .ok (.istore 4, 2) := by decide +kernel
theorem dX7_cuts_34 : decode cX7_cuts 34 = .ok (.iload 4, 2) := by decide +kernel
theorem dX7_cuts_36 : decode cX7_cuts 36 = .ok (.sipush 366, 3) := by decide +kernel
theorem dX7_cuts_39 : decode cX7_cuts 39 = .ok (.if_icmp .gt 66, 3) := by decide +kernel
theorem dX7_cuts_42 : decode cX7_cuts 42 = .ok (.iconst 0, 1) := by decide +kernel
theorem dX7_cuts_43 : decode cX7_cuts 43 = .ok (.istore 5, 2) := by decide +kernel
theorem dX7_cuts_45 : decode cX7_cuts 45 = .ok (.iconst 0, 1) := by decide +kernel
theorem dX7_cuts_46 : decode cX7_cuts 46 = .ok (.istore 6, 2) := by decide +kernel
theorem dX7_cuts_48 : decode cX7_cuts 48 = .ok (.iload 6, 2) := by decide +kernel
theorem dX7_cuts_50 : decode cX7_cuts 50 = .ok (.aload_n 0, 1) := by decide +kernel
theorem dX7_cuts_51 : decode cX7_cuts 51 = .ok (.getfield 163, 3) := by decide +kernel
theorem dX7_cuts_54 : decode cX7_cuts 54 = .ok (.if_icmp .ge 36, 3) := by decide +kernel
theorem dX7_cuts_57 : decode cX7_cuts 57 = .ok (.iload 5, 2) := by decide +kernel
theorem dX7_cuts_59 : decode cX7_cuts 59 = .ok (.aload_n 0, 1) := by decide +kernel
theorem dX7_cuts_60 : decode cX7_cuts 60 = .ok (.iload_n 1, 1) := by decide +kernel
theorem dX7_cuts_61 : decode cX7_cuts 61 = .ok (.aload_n 0, 1) := by decide +kernel
theorem dX7_cuts_62 : decode cX7_cuts 62 = .ok (.getfield 47, 3) := by decide +kernel
theorem dX7_cuts_65 : decode cX7_cuts 65 = .ok (.iload 6, 2) := by decide +kernel
theorem dX7_cuts_67 : decode cX7_cuts 67 = .ok (.iaload, 1) := by decide +kernel
theorem dX7_cuts_68 : decode cX7_cuts 68 = .ok (.invokevirtual 100, 3) := by decide +kernel
theorem dX7_cuts_71 : decode cX7_cuts 71 = .ok (.iload 4, 2) := by decide +kernel
theorem dX7_cuts_73 : decode cX7_cuts 73 = .ok (.if_icmp .gt 7, 3) := by decide +kernel
theorem dX7_cuts_76 : decode cX7_cuts 76 = .ok (.iconst 1, 1) := by decide +kernel
theorem dX7_cuts_77 : decode cX7_cuts 77 = .ok (.goto 4, 3) := by decide +kernel
theorem dX7_cuts_80 : decode cX7_cuts 80 = .ok (.iconst 0, 1) := by decide +kernel
theorem dX7_cuts_81 : decode cX7_cuts 81 = .ok (.iadd, 1) := by decide +kernel
theorem dX7_cuts_82 : decode cX7_cuts 82 = .ok (.istore 5, 2) := by decide +kernel
theorem dX7_cuts_84 : decode cX7_cuts 84 = .ok (.iinc 6 1, 3) := by decide +kernel
theorem dX7_cuts_87 : decode cX7_cuts 87 = .ok (.goto (-39), 3) := by decide +kernel
theorem dX7_cuts_90 : decode cX7_cuts 90 = .ok (.iload 5, 2) := by decide +kernel
theorem dX7_cuts_92 : decode cX7_cuts 92 = .ok (.iload_n 2, 1) := by decide +kernel
theorem dX7_cuts_93 : decode cX7_cuts 93 = .ok (.if_icmp .lt 6, 3) := by decide +kernel
theorem dX7_cuts_96 : decode cX7_cuts 96 = .ok (.iload 4, 2) := by decide +kernel
theorem dX7_cuts_98 : decode cX7_cuts 98 = .ok (.ireturn, 1) := by decide +kernel
theorem dX7_cuts_99 : decode cX7_cuts 99 = .ok (.iinc 4 1, 3) := by decide +kernel
theorem dX7_cuts_102 : decode cX7_cuts 102 = .ok (.goto (-68), 3) := by decide +kernel
theorem dX7_cuts_105 : decode cX7_cuts 105 = .ok (.bipush (-9), 2) := by decide +kernel
theorem dX7_cuts_107 : decode cX7_cuts 107 = .ok (.ireturn, 1) := by decide +kernel
theorem dX7_passes_0 : decode cX7_passes 0 = .ok (.iconst 0, 1) := by decide +kernel
theorem dX7_passes_1 : decode cX7_passes 1 = .ok (.istore_n 2, 1) := by decide +kernel
theorem dX7_passes_2 : decode cX7_passes 2 = .ok (.iload_n 2, 1) := by decide +kernel
theorem dX7_passes_3 : decode cX7_passes 3 = .ok (.aload_n 1, 1) := by decide +kernel
theorem dX7_passes_4 : decode cX7_passes 4 = .ok (.arraylength, 1) := by decide +kernel
theorem dX7_passes_5 : decode cX7_passes 5 = .ok (.if_icmp .ge 53, 3) := by decide +kernel
theorem dX7_passes_8 : decode cX7_passes 8 = .ok (.aload_n 0, 1) := by decide +kernel
theorem dX7_passes_9 : decode cX7_passes 9 = .ok (.getfield 207, 3) := by decide +kernel
theorem dX7_passes_12 : decode cX7_passes 12 = .ok (.ifCond .eq 18, 3) := by decide +kernel
theorem dX7_passes_15 : decode cX7_passes 15 = .ok (.aload_n 0, 1) := by decide +kernel
theorem dX7_passes_16 : decode cX7_passes 16 = .ok (.getfield 66, 3) := by decide +kernel
theorem dX7_passes_19 : decode cX7_passes 19 = .ok (.aload_n 0, 1) := by decide +kernel
theorem dX7_passes_20 : decode cX7_passes 20 = .ok (.getfield 211, 3) := by decide +kernel
theorem dX7_passes_23 : decode cX7_passes 23 = .ok (.aload_n 1, 1) := by decide +kernel
theorem dX7_passes_24 : decode cX7_passes 24 = .ok (.iload_n 2, 1) := by decide +kernel
theorem dX7_passes_25 : decode cX7_passes 25 = .ok (.iaload, 1) := by decide +kernel
theorem dX7_passes_26 : decode cX7_passes 26 = .ok (.iastore, 1) := by decide +kernel
theorem dX7_passes_27 : decode cX7_passes 27 = .ok (.goto 15, 3) := by decide +kernel
theorem dX7_passes_30 : decode cX7_passes 30 = .ok (.aload_n 1, 1) := by decide +kernel
theorem dX7_passes_31 : decode cX7_passes 31 = .ok (.iload_n 2, 1) := by decide +kernel
theorem dX7_passes_32 : decode cX7_passes 32 = .ok (.aload_n 0, 1) := by decide +kernel
theorem dX7_passes_33 : decode cX7_passes 33 = .ok (.getfield 66, 3) := by decide +kernel
theorem dX7_passes_36 : decode cX7_passes 36 = .ok (.aload_n 0, 1) := by decide +kernel
theorem dX7_passes_37 : decode cX7_passes 37 = .ok (.getfield 211, 3) := by decide +kernel
theorem dX7_passes_40 : decode cX7_passes 40 = .ok (.iaload, 1) := by decide +kernel
theorem dX7_passes_41 : decode cX7_passes 41 = .ok (.iastore, 1) := by decide +kernel
theorem dX7_passes_42 : decode cX7_passes 42 = .ok (.aload_n 0, 1) := by decide +kernel
theorem dX7_passes_43 : decode cX7_passes 43 = .ok (.dup, 1) := by decide +kernel
theorem dX7_passes_44 : decode cX7_passes 44 = .ok (.getfield 211, 3) := by decide +kernel
theorem dX7_passes_47 : decode cX7_passes 47 = .ok (.iconst 1, 1) := by decide +kernel
theorem dX7_passes_48 : decode cX7_passes 48 = .ok (.iadd, 1) := by decide +kernel
theorem dX7_passes_49 : decode cX7_passes 49 = .ok (.putfield 211, 3) := by decide +kernel
theorem dX7_passes_52 : decode cX7_passes 52 = .ok (.iinc 2 1, 3) := by decide +kernel
theorem dX7_passes_55 : decode cX7_passes 55 = .ok (.goto (-53), 3) := by decide +kernel
theorem dX7_passes_58 : decode cX7_passes 58 = .ok (.return_, 1) := by decide +kernel
theorem dX7_passOne_0 : decode cX7_passOne 0 = .ok (.aload_n 0, 1) := by decide +kernel
theorem dX7_passOne_1 : decode cX7_passOne 1 = .ok (.getfield 207, 3) := by decide +kernel
theorem dX7_passOne_4 : decode cX7_passOne 4 = .ok (.ifCond .eq 7, 3) := by decide +kernel
theorem dX7_passOne_7 : decode cX7_passOne 7 = .ok (.iload_n 1, 1) := by decide +kernel
theorem dX7_passOne_8 : decode cX7_passOne 8 = .ok (.goto 12, 3) := by decide +kernel
theorem dX7_passOne_11 : decode cX7_passOne 11 = .ok (.aload_n 0, 1) := by decide +kernel
theorem dX7_passOne_12 : decode cX7_passOne 12 = .ok (.getfield 66, 3) := by decide +kernel
theorem dX7_passOne_15 : decode cX7_passOne 15 = .ok (.aload_n 0, 1) := by decide +kernel
theorem dX7_passOne_16 : decode cX7_passOne 16 = .ok (.getfield 211, 3) := by decide +kernel
theorem dX7_passOne_19 : decode cX7_passOne 19 = .ok (.iaload, 1) := by decide +kernel
theorem dX7_passOne_20 : decode cX7_passOne 20 = .ok (.istore_n 2, 1) := by decide +kernel
theorem dX7_passOne_21 : decode cX7_passOne 21 = .ok (.aload_n 0, 1) := by decide +kernel
theorem dX7_passOne_22 : decode cX7_passOne 22 = .ok (.getfield 207, 3) := by decide +kernel
theorem dX7_passOne_25 : decode cX7_passOne 25 = .ok (.ifCond .eq 13, 3) := by decide +kernel
theorem dX7_passOne_28 : decode cX7_passOne 28 = .ok (.aload_n 0, 1) := by decide +kernel
theorem dX7_passOne_29 : decode cX7_passOne 29 = .ok (.getfield 66, 3) := by decide +kernel
theorem dX7_passOne_32 : decode cX7_passOne 32 = .ok (.aload_n 0, 1) := by decide +kernel
theorem dX7_passOne_33 : decode cX7_passOne 33 = .ok (.getfield 211, 3) := by decide +kernel
theorem dX7_passOne_36 : decode cX7_passOne 36 = .ok (.iload_n 1, 1) := by decide +kernel
theorem dX7_passOne_37 : decode cX7_passOne 37 = .ok (.iastore, 1) := by decide +kernel
theorem dX7_passOne_38 : decode cX7_passOne 38 = .ok (.aload_n 0, 1) := by decide +kernel
theorem dX7_passOne_39 : decode cX7_passOne 39 = .ok (.dup, 1) := by decide +kernel
theorem dX7_passOne_40 : decode cX7_passOne 40 = .ok (.getfield 211, 3) := by decide +kernel
theorem dX7_passOne_43 : decode cX7_passOne 43 = .ok (.iconst 1, 1) := by decide +kernel
theorem dX7_passOne_44 : decode cX7_passOne 44 = .ok (.iadd, 1) := by decide +kernel
theorem dX7_passOne_45 : decode cX7_passOne 45 = .ok (.putfield 211, 3) := by decide +kernel
theorem dX7_passOne_48 : decode cX7_passOne 48 = .ok (.iload_n 2, 1) := by decide +kernel
theorem dX7_passOne_49 : decode cX7_passOne 49 = .ok (.ireturn, 1) := by decide +kernel
set_option maxRecDepth 20000 in
theorem dX7_passesAll_0 : decode cX7_passesAll 0 = .ok (.aload_n 0, 1) := by decide +kernel
theorem dX7_passesAll_1 : decode cX7_passesAll 1 = .ok (.iconst 0, 1) := by decide +kernel
theorem dX7_passesAll_2 : decode cX7_passesAll 2 = .ok (.putfield 211, 3) := by decide +kernel
theorem dX7_passesAll_5 : decode cX7_passesAll 5 = .ok (.aload_n 0, 1) := by decide +kernel
theorem dX7_passesAll_6 : decode cX7_passesAll 6 = .ok (.aload_n 0, 1) := by decide +kernel
theorem dX7_passesAll_7 : decode cX7_passesAll 7 = .ok (.getfield 13, 3) := by decide +kernel
theorem dX7_passesAll_10 : decode cX7_passesAll 10 = .ok (.invokevirtual 214, 3) := by decide +kernel
theorem dX7_passesAll_13 : decode cX7_passesAll 13 = .ok (.aload_n 0, 1) := by decide +kernel
theorem dX7_passesAll_14 : decode cX7_passesAll 14 = .ok (.aload_n 0, 1) := by decide +kernel
theorem dX7_passesAll_15 : decode cX7_passesAll 15 = .ok (.getfield 16, 3) := by decide +kernel
theorem dX7_passesAll_18 : decode cX7_passesAll 18 = .ok (.invokevirtual 214, 3) := by decide +kernel
theorem dX7_passesAll_21 : decode cX7_passesAll 21 = .ok (.aload_n 0, 1) := by decide +kernel
theorem dX7_passesAll_22 : decode cX7_passesAll 22 = .ok (.aload_n 0, 1) := by decide +kernel
theorem dX7_passesAll_23 : decode cX7_passesAll 23 = .ok (.getfield 19, 3) := by decide +kernel
theorem dX7_passesAll_26 : decode cX7_passesAll 26 = .ok (.invokevirtual 214, 3) := by decide +kernel
theorem dX7_passesAll_29 : decode cX7_passesAll 29 = .ok (.aload_n 0, 1) := by decide +kernel
theorem dX7_passesAll_30 : decode cX7_passesAll 30 = .ok (.aload_n 0, 1) := by decide +kernel
theorem dX7_passesAll_31 : decode cX7_passesAll 31 = .ok (.getfield 22, 3) := by decide +kernel
theorem dX7_passesAll_34 : decode cX7_passesAll 34 = .ok (.invokevirtual 214, 3) := by decide +kernel
theorem dX7_passesAll_37 : decode cX7_passesAll 37 = .ok (.aload_n 0, 1) := by decide +kernel
theorem dX7_passesAll_38 : decode cX7_passesAll 38 = .ok (.aload_n 0, 1) := by decide +kernel
theorem dX7_passesAll_39 : decode cX7_passesAll 39 = .ok (.getfield 25, 3) := by decide +kernel
theorem dX7_passesAll_42 : decode cX7_passesAll 42 = .ok (.invokevirtual 214, 3) := by decide +kernel
theorem dX7_passesAll_45 : decode cX7_passesAll 45 = .ok (.aload_n 0, 1) := by decide +kernel
theorem dX7_passesAll_46 : decode cX7_passesAll 46 = .ok (.aload_n 0, 1) := by decide +kernel
theorem dX7_passesAll_47 : decode cX7_passesAll 47 = .ok (.getfield 44, 3) := by decide +kernel
theorem dX7_passesAll_50 : decode cX7_passesAll 50 = .ok (.invokevirtual 214, 3) := by decide +kernel
theorem dX7_passesAll_53 : decode cX7_passesAll 53 = .ok (.aload_n 0, 1) := by decide +kernel
theorem dX7_passesAll_54 : decode cX7_passesAll 54 = .ok (.aload_n 0, 1) := by decide +kernel
theorem dX7_passesAll_55 : decode cX7_passesAll 55 = .ok (.getfield 47, 3) := by decide +kernel
theorem dX7_passesAll_58 : decode cX7_passesAll 58 = .ok (.invokevirtual 214, 3) := by decide +kernel
theorem dX7_passesAll_61 : decode cX7_passesAll 61 = .ok (.aload_n 0, 1) := by decide +kernel
theorem dX7_passesAll_62 : decode cX7_passesAll 62 = .ok (.aload_n 0, 1) := by decide +kernel
theorem dX7_passesAll_63 : decode cX7_passesAll 63 = .ok (.getfield 50, 3) := by decide +kernel
theorem dX7_passesAll_66 : decode cX7_passesAll 66 = .ok (.invokevirtual 214, 3) := by decide +kernel
theorem dX7_passesAll_69 : decode cX7_passesAll 69 = .ok (.aload_n 0, 1) := by decide +kernel
theorem dX7_passesAll_70 : decode cX7_passesAll 70 = .ok (.aload_n 0, 1) := by decide +kernel
theorem dX7_passesAll_71 : decode cX7_passesAll 71 = .ok (.getfield 53, 3) := by decide +kernel
theorem dX7_passesAll_74 : decode cX7_passesAll 74 = .ok (.invokevirtual 214, 3) := by decide +kernel
theorem dX7_passesAll_77 : decode cX7_passesAll 77 = .ok (.aload_n 0, 1) := by decide +kernel
theorem dX7_passesAll_78 : decode cX7_passesAll 78 = .ok (.aload_n 0, 1) := by decide +kernel
theorem dX7_passesAll_79 : decode cX7_passesAll 79 = .ok (.aload_n 0, 1) := by decide +kernel
theorem dX7_passesAll_80 : decode cX7_passesAll 80 = .ok (.getfield 163, 3) := by decide +kernel
theorem dX7_passesAll_83 : decode cX7_passesAll 83 = .ok (.invokevirtual 218, 3) := by decide +kernel
theorem dX7_passesAll_86 : decode cX7_passesAll 86 = .ok (.putfield 163, 3) := by decide +kernel
theorem dX7_passesAll_89 : decode cX7_passesAll 89 = .ok (.aload_n 0, 1) := by decide +kernel
theorem dX7_passesAll_90 : decode cX7_passesAll 90 = .ok (.aload_n 0, 1) := by decide +kernel
theorem dX7_passesAll_91 : decode cX7_passesAll 91 = .ok (.aload_n 0, 1) := by decide +kernel
theorem dX7_passesAll_92 : decode cX7_passesAll 92 = .ok (.getfield 59, 3) := by decide +kernel
theorem dX7_passesAll_95 : decode cX7_passesAll 95 = .ok (.invokevirtual 218, 3) := by decide +kernel
theorem dX7_passesAll_98 : decode cX7_passesAll 98 = .ok (.putfield 59, 3) := by decide +kernel
theorem dX7_passesAll_101 : decode cX7_passesAll 101 = .ok (.aload_n 0, 1) := by decide +kernel
theorem dX7_passesAll_102 : decode cX7_passesAll 102 = .ok (.aload_n 0, 1) := by decide +kernel
theorem dX7_passesAll_103 : decode cX7_passesAll 103 = .ok (.aload_n 0, 1) := by decide +kernel
theorem dX7_passesAll_104 : decode cX7_passesAll 104 = .ok (.getfield 63, 3) := by decide +kernel
theorem dX7_passesAll_107 : decode cX7_passesAll 107 = .ok (.invokevirtual 218, 3) := by decide +kernel
theorem dX7_passesAll_110 : decode cX7_passesAll 110 = .ok (.putfield 63, 3) := by decide +kernel
theorem dX7_passesAll_113 : decode cX7_passesAll 113 = .ok (.return_, 1) := by decide +kernel
set_option maxRecDepth 20000 in
theorem dX7_image_0 : decode cX7_image 0 = .ok (.aload_n 0, 1) := by decide +kernel
theorem dX7_image_1 : decode cX7_image 1 = .ok (.iconst 1, 1) := by decide +kernel
theorem dX7_image_2 : decode cX7_image 2 = .ok (.putfield 207, 3) := by decide +kernel
theorem dX7_image_5 : decode cX7_image 5 = .ok (.aload_n 0, 1) := by decide +kernel
theorem dX7_image_6 : decode cX7_image 6 = .ok (.iconst 1, 1) := by decide +kernel
theorem dX7_image_7 : decode cX7_image 7 = .ok (.putfield 221, 3) := by decide +kernel
theorem dX7_image_10 : decode cX7_image 10 = .ok (.aload_n 0, 1) := by decide +kernel
theorem dX7_image_11 : decode cX7_image 11 = .ok (.invokevirtual 224, 3) := by decide +kernel
theorem dX7_image_14 : decode cX7_image 14 = .ok (.aload_n 0, 1) := by decide +kernel
theorem dX7_image_15 : decode cX7_image 15 = .ok (.getfield 163, 3) := by decide +kernel
theorem dX7_image_18 : decode cX7_image 18 = .ok (.ireturn, 1) := by decide +kernel
set_option maxRecDepth 20000 in
theorem dX7_on_0 : decode cX7_on 0 = .ok (.aload_n 0, 1) := by decide +kernel
theorem dX7_on_1 : decode cX7_on 1 = .ok (.getfield 221, 3) := by decide +kernel
theorem dX7_on_4 : decode cX7_on 4 = .ok (.ifCond .ne 10, 3) := by decide +kernel
theorem dX7_on_7 : decode cX7_on 7 = .ok (.aload_n 0, 1) := by decide +kernel
theorem dX7_on_8 : decode cX7_on 8 = .ok (.bipush (-3), 2) := by decide +kernel
theorem dX7_on_10 : decode cX7_on 10 = .ok (.invokevirtual 81, 3) := by decide +kernel
theorem dX7_on_13 : decode cX7_on 13 = .ok (.ireturn, 1) := by decide +kernel
theorem dX7_on_14 : decode cX7_on 14 = .ok (.aload_n 0, 1) := by decide +kernel
theorem dX7_on_15 : decode cX7_on 15 = .ok (.iconst 0, 1) := by decide +kernel
theorem dX7_on_16 : decode cX7_on 16 = .ok (.putfield 207, 3) := by decide +kernel
theorem dX7_on_19 : decode cX7_on 19 = .ok (.aload_n 0, 1) := by decide +kernel
theorem dX7_on_20 : decode cX7_on 20 = .ok (.invokevirtual 224, 3) := by decide +kernel
theorem dX7_on_23 : decode cX7_on 23 = .ok (.aload_n 0, 1) := by decide +kernel
theorem dX7_on_24 : decode cX7_on 24 = .ok (.getfield 37, 3) := by decide +kernel
theorem dX7_on_27 : decode cX7_on 27 = .ok (.iconst 0, 1) := by decide +kernel
theorem dX7_on_28 : decode cX7_on 28 = .ok (.iconst 0, 1) := by decide +kernel
theorem dX7_on_29 : decode cX7_on 29 = .ok (.bastore, 1) := by decide +kernel
theorem dX7_on_30 : decode cX7_on 30 = .ok (.aload_n 0, 1) := by decide +kernel
theorem dX7_on_31 : decode cX7_on 31 = .ok (.getfield 37, 3) := by decide +kernel
theorem dX7_on_34 : decode cX7_on 34 = .ok (.iconst 1, 1) := by decide +kernel
theorem dX7_on_35 : decode cX7_on 35 = .ok (.iconst 0, 1) := by decide +kernel
theorem dX7_on_36 : decode cX7_on 36 = .ok (.bastore, 1) := by decide +kernel
theorem dX7_on_37 : decode cX7_on 37 = .ok (.aload_n 0, 1) := by decide +kernel
theorem dX7_on_38 : decode cX7_on 38 = .ok (.getfield 163, 3) := by decide +kernel
theorem dX7_on_41 : decode cX7_on 41 = .ok (.ireturn, 1) := by decide +kernel
set_option maxRecDepth 20000 in
theorem dX7_count_0 : decode cX7_count 0 = .ok (.iload_n 1, 1) := by decide +kernel
theorem dX7_count_1 : decode cX7_count 1 = .ok (.bipush 11, 2) := by decide +kernel
theorem dX7_count_3 : decode cX7_count 3 = .ok (.bipush 16, 2) := by decide +kernel
theorem dX7_count_5 : decode cX7_count 5 = .ok (.invokestatic 96, 3) := by decide +kernel
theorem dX7_count_8 : decode cX7_count 8 = .ok (.ifCond .eq 13, 3) := by decide +kernel
theorem dX7_count_11 : decode cX7_count 11 = .ok (.aload_n 0, 1) := by decide +kernel
theorem dX7_count_12 : decode cX7_count 12 = .ok (.getfield 7, 3) := by decide +kernel
theorem dX7_count_15 : decode cX7_count 15 = .ok (.iload_n 1, 1) := by decide +kernel
theorem dX7_count_16 : decode cX7_count 16 = .ok (.bipush 10, 2) := by decide +kernel
theorem dX7_count_18 : decode cX7_count 18 = .ok (.isub, 1) := by decide +kernel
theorem dX7_count_19 : decode cX7_count 19 = .ok (.iaload, 1) := by decide +kernel
theorem dX7_count_20 : decode cX7_count 20 = .ok (.ireturn, 1) := by decide +kernel
theorem dX7_count_21 : decode cX7_count 21 = .ok (.iconst 0, 1) := by decide +kernel
theorem dX7_count_22 : decode cX7_count 22 = .ok (.istore_n 2, 1) := by decide +kernel
theorem dX7_count_23 : decode cX7_count 23 = .ok (.iload_n 1, 1) := by decide +kernel
theorem dX7_count_24 : decode cX7_count 24 = .ok (.tableswitch 79 0 3 #[32, 37, 37, 74], 32) := by decide +kernel
theorem dX7_count_56 : decode cX7_count 56 = .ok (.aload_n 0, 1) := by decide +kernel
theorem dX7_count_57 : decode cX7_count 57 = .ok (.getfield 163, 3) := by decide +kernel
theorem dX7_count_60 : decode cX7_count 60 = .ok (.ireturn, 1) := by decide +kernel
theorem dX7_count_61 : decode cX7_count 61 = .ok (.iconst 0, 1) := by decide +kernel
theorem dX7_count_62 : decode cX7_count 62 = .ok (.istore_n 3, 1) := by decide +kernel
theorem dX7_count_63 : decode cX7_count 63 = .ok (.iload_n 3, 1) := by decide +kernel
theorem dX7_count_64 : decode cX7_count 64 = .ok (.aload_n 0, 1) := by decide +kernel
theorem dX7_count_65 : decode cX7_count 65 = .ok (.getfield 163, 3) := by decide +kernel
theorem dX7_count_68 : decode cX7_count 68 = .ok (.if_icmp .ge 28, 3) := by decide +kernel
theorem dX7_count_71 : decode cX7_count 71 = .ok (.iload_n 2, 1) := by decide +kernel
theorem dX7_count_72 : decode cX7_count 72 = .ok (.aload_n 0, 1) := by decide +kernel
theorem dX7_count_73 : decode cX7_count 73 = .ok (.iload_n 1, 1) := by decide +kernel
theorem dX7_count_74 : decode cX7_count 74 = .ok (.iconst 1, 1) := by decide +kernel
theorem dX7_count_75 : decode cX7_count 75 = .ok (.isub, 1) := by decide +kernel
theorem dX7_count_76 : decode cX7_count 76 = .ok (.iload_n 3, 1) := by decide +kernel
theorem dX7_count_77 : decode cX7_count 77 = .ok (.invokevirtual 190, 3) := by decide +kernel
theorem dX7_count_80 : decode cX7_count 80 = .ok (.ifCond .eq 7, 3) := by decide +kernel
theorem dX7_count_83 : decode cX7_count 83 = .ok (.iconst 1, 1) := by decide +kernel
theorem dX7_count_84 : decode cX7_count 84 = .ok (.goto 4, 3) := by decide +kernel
theorem dX7_count_87 : decode cX7_count 87 = .ok (.iconst 0, 1) := by decide +kernel
theorem dX7_count_88 : decode cX7_count 88 = .ok (.iadd, 1) := by decide +kernel
theorem dX7_count_89 : decode cX7_count 89 = .ok (.istore_n 2, 1) := by decide +kernel
theorem dX7_count_90 : decode cX7_count 90 = .ok (.iinc 3 1, 3) := by decide +kernel
theorem dX7_count_93 : decode cX7_count 93 = .ok (.goto (-30), 3) := by decide +kernel
theorem dX7_count_96 : decode cX7_count 96 = .ok (.iload_n 2, 1) := by decide +kernel
theorem dX7_count_97 : decode cX7_count 97 = .ok (.ireturn, 1) := by decide +kernel
theorem dX7_count_98 : decode cX7_count 98 = .ok (.aload_n 0, 1) := by decide +kernel
theorem dX7_count_99 : decode cX7_count 99 = .ok (.getfield 148, 3) := by decide +kernel
theorem dX7_count_102 : decode cX7_count 102 = .ok (.ireturn, 1) := by decide +kernel
theorem dX7_count_103 : decode cX7_count 103 = .ok (.bipush (-9), 2) := by decide +kernel
theorem dX7_count_105 : decode cX7_count 105 = .ok (.ireturn, 1) := by decide +kernel
theorem dJ13_bitCount_95d88_0 : decode cJ13_bitCount_95d88 0 = .ok (.lload_n 0, 1) := by decide +kernel
theorem dJ13_bitCount_95d88_1 : decode cJ13_bitCount_95d88 1 = .ok (.lload_n 0, 1) := by decide +kernel
theorem dJ13_bitCount_95d88_2 : decode cJ13_bitCount_95d88 2 = .ok (.iconst 1, 1) := by decide +kernel
theorem dJ13_bitCount_95d88_3 : decode cJ13_bitCount_95d88 3 = .ok (.lushr, 1) := by decide +kernel
theorem dJ13_bitCount_95d88_4 : decode cJ13_bitCount_95d88 4 = .ok (.ldc2_w 314, 3) := by decide +kernel
theorem dJ13_bitCount_95d88_7 : decode cJ13_bitCount_95d88 7 = .ok (.land, 1) := by decide +kernel
theorem dJ13_bitCount_95d88_8 : decode cJ13_bitCount_95d88 8 = .ok (.lsub, 1) := by decide +kernel
theorem dJ13_bitCount_95d88_9 : decode cJ13_bitCount_95d88 9 = .ok (.lstore_n 0, 1) := by decide +kernel
theorem dJ13_bitCount_95d88_10 : decode cJ13_bitCount_95d88 10 = .ok (.lload_n 0, 1) := by decide +kernel
theorem dJ13_bitCount_95d88_11 : decode cJ13_bitCount_95d88 11 = .ok (.ldc2_w 316, 3) := by decide +kernel
theorem dJ13_bitCount_95d88_14 : decode cJ13_bitCount_95d88 14 = .ok (.land, 1) := by decide +kernel
theorem dJ13_bitCount_95d88_15 : decode cJ13_bitCount_95d88 15 = .ok (.lload_n 0, 1) := by decide +kernel
theorem dJ13_bitCount_95d88_16 : decode cJ13_bitCount_95d88 16 = .ok (.iconst 2, 1) := by decide +kernel
theorem dJ13_bitCount_95d88_17 : decode cJ13_bitCount_95d88 17 = .ok (.lushr, 1) := by decide +kernel
theorem dJ13_bitCount_95d88_18 : decode cJ13_bitCount_95d88 18 = .ok (.ldc2_w 316, 3) := by decide +kernel
theorem dJ13_bitCount_95d88_21 : decode cJ13_bitCount_95d88 21 = .ok (.land, 1) := by decide +kernel
theorem dJ13_bitCount_95d88_22 : decode cJ13_bitCount_95d88 22 = .ok (.ladd, 1) := by decide +kernel
theorem dJ13_bitCount_95d88_23 : decode cJ13_bitCount_95d88 23 = .ok (.lstore_n 0, 1) := by decide +kernel
theorem dJ13_bitCount_95d88_24 : decode cJ13_bitCount_95d88 24 = .ok (.lload_n 0, 1) := by decide +kernel
theorem dJ13_bitCount_95d88_25 : decode cJ13_bitCount_95d88 25 = .ok (.lload_n 0, 1) := by decide +kernel
theorem dJ13_bitCount_95d88_26 : decode cJ13_bitCount_95d88 26 = .ok (.iconst 4, 1) := by decide +kernel
theorem dJ13_bitCount_95d88_27 : decode cJ13_bitCount_95d88 27 = .ok (.lushr, 1) := by decide +kernel
theorem dJ13_bitCount_95d88_28 : decode cJ13_bitCount_95d88 28 = .ok (.ladd, 1) := by decide +kernel
theorem dJ13_bitCount_95d88_29 : decode cJ13_bitCount_95d88 29 = .ok (.ldc2_w 318, 3) := by decide +kernel
theorem dJ13_bitCount_95d88_32 : decode cJ13_bitCount_95d88 32 = .ok (.land, 1) := by decide +kernel
theorem dJ13_bitCount_95d88_33 : decode cJ13_bitCount_95d88 33 = .ok (.lstore_n 0, 1) := by decide +kernel
theorem dJ13_bitCount_95d88_34 : decode cJ13_bitCount_95d88 34 = .ok (.lload_n 0, 1) := by decide +kernel
theorem dJ13_bitCount_95d88_35 : decode cJ13_bitCount_95d88 35 = .ok (.lload_n 0, 1) := by decide +kernel
theorem dJ13_bitCount_95d88_36 : decode cJ13_bitCount_95d88 36 = .ok (.bipush 8, 2) := by decide +kernel
theorem dJ13_bitCount_95d88_38 : decode cJ13_bitCount_95d88 38 = .ok (.lushr, 1) := by decide +kernel
theorem dJ13_bitCount_95d88_39 : decode cJ13_bitCount_95d88 39 = .ok (.ladd, 1) := by decide +kernel
theorem dJ13_bitCount_95d88_40 : decode cJ13_bitCount_95d88 40 = .ok (.lstore_n 0, 1) := by decide +kernel
theorem dJ13_bitCount_95d88_41 : decode cJ13_bitCount_95d88 41 = .ok (.lload_n 0, 1) := by decide +kernel
theorem dJ13_bitCount_95d88_42 : decode cJ13_bitCount_95d88 42 = .ok (.lload_n 0, 1) := by decide +kernel
theorem dJ13_bitCount_95d88_43 : decode cJ13_bitCount_95d88 43 = .ok (.bipush 16, 2) := by decide +kernel
theorem dJ13_bitCount_95d88_45 : decode cJ13_bitCount_95d88 45 = .ok (.lushr, 1) := by decide +kernel
theorem dJ13_bitCount_95d88_46 : decode cJ13_bitCount_95d88 46 = .ok (.ladd, 1) := by decide +kernel
theorem dJ13_bitCount_95d88_47 : decode cJ13_bitCount_95d88 47 = .ok (.lstore_n 0, 1) := by decide +kernel
theorem dJ13_bitCount_95d88_48 : decode cJ13_bitCount_95d88 48 = .ok (.lload_n 0, 1) := by decide +kernel
theorem dJ13_bitCount_95d88_49 : decode cJ13_bitCount_95d88 49 = .ok (.lload_n 0, 1) := by decide +kernel
theorem dJ13_bitCount_95d88_50 : decode cJ13_bitCount_95d88 50 = .ok (.bipush 32, 2) := by decide +kernel
theorem dJ13_bitCount_95d88_52 : decode cJ13_bitCount_95d88 52 = .ok (.lushr, 1) := by decide +kernel
theorem dJ13_bitCount_95d88_53 : decode cJ13_bitCount_95d88 53 = .ok (.ladd, 1) := by decide +kernel
theorem dJ13_bitCount_95d88_54 : decode cJ13_bitCount_95d88 54 = .ok (.lstore_n 0, 1) := by decide +kernel
theorem dJ13_bitCount_95d88_55 : decode cJ13_bitCount_95d88 55 = .ok (.lload_n 0, 1) := by decide +kernel
theorem dJ13_bitCount_95d88_56 : decode cJ13_bitCount_95d88 56 = .ok (.l2i, 1) := by decide +kernel
theorem dJ13_bitCount_95d88_57 : decode cJ13_bitCount_95d88 57 = .ok (.bipush 127, 2) := by decide +kernel
theorem dJ13_bitCount_95d88_59 : decode cJ13_bitCount_95d88 59 = .ok (.iand, 1) := by decide +kernel
theorem dJ13_bitCount_95d88_60 : decode cJ13_bitCount_95d88 60 = .ok (.ireturn, 1) := by decide +kernel
theorem dJ9_abs_067f4_0 : decode cJ9_abs_067f4 0 = .ok (.lload_n 0, 1) := by decide +kernel
theorem dJ9_abs_067f4_1 : decode cJ9_abs_067f4 1 = .ok (.lconst 0, 1) := by decide +kernel
theorem dJ9_abs_067f4_2 : decode cJ9_abs_067f4 2 = .ok (.lcmp, 1) := by decide +kernel
theorem dJ9_abs_067f4_3 : decode cJ9_abs_067f4 3 = .ok (.ifCond .ge 8, 3) := by decide +kernel
theorem dJ9_abs_067f4_6 : decode cJ9_abs_067f4 6 = .ok (.lload_n 0, 1) := by decide +kernel
theorem dJ9_abs_067f4_7 : decode cJ9_abs_067f4 7 = .ok (.lneg, 1) := by decide +kernel
theorem dJ9_abs_067f4_8 : decode cJ9_abs_067f4 8 = .ok (.goto 4, 3) := by decide +kernel
theorem dJ9_abs_067f4_11 : decode cJ9_abs_067f4 11 = .ok (.lload_n 0, 1) := by decide +kernel
theorem dJ9_abs_067f4_12 : decode cJ9_abs_067f4 12 = .ok (.lreturn, 1) := by decide +kernel
theorem dJ9_max_7cf53_0 : decode cJ9_max_7cf53 0 = .ok (.iload_n 0, 1) := by decide +kernel
theorem dJ9_max_7cf53_1 : decode cJ9_max_7cf53 1 = .ok (.iload_n 1, 1) := by decide +kernel
theorem dJ9_max_7cf53_2 : decode cJ9_max_7cf53 2 = .ok (.if_icmp .lt 7, 3) := by decide +kernel
theorem dJ9_max_7cf53_5 : decode cJ9_max_7cf53 5 = .ok (.iload_n 0, 1) := by decide +kernel
end
section
theorem dJ9_max_7cf53_6 : decode cJ9_max_7cf53 6 = .ok (.goto 4, 3) := by decide +kernel
theorem dJ9_max_7cf53_9 : decode cJ9_max_7cf53 9 = .ok (.iload_n 1, 1) := by decide +kernel
theorem dJ9_max_7cf53_10 : decode cJ9_max_7cf53 10 = .ok (.ireturn, 1) := by decide +kernel
theorem dJ9_min_7cf53_0 : decode cJ9_min_7cf53 0 = .ok (.iload_n 0, 1) := by decide +kernel
theorem dJ9_min_7cf53_1 : decode cJ9_min_7cf53 1 = .ok (.iload_n 1, 1) := by decide +kernel
theorem dJ9_min_7cf53_2 : decode cJ9_min_7cf53 2 = .ok (.if_icmp .gt 7, 3) := by decide +kernel
theorem dJ9_min_7cf53_5 : decode cJ9_min_7cf53 5 = .ok (.iload_n 0, 1) := by decide +kernel
theorem dJ9_min_7cf53_6 : decode cJ9_min_7cf53 6 = .ok (.goto 4, 3) := by decide +kernel
theorem dJ9_min_7cf53_9 : decode cJ9_min_7cf53 9 = .ok (.iload_n 1, 1) := by decide +kernel
theorem dJ9_min_7cf53_10 : decode cJ9_min_7cf53 10 = .ok (.ireturn, 1) := by decide +kernel
theorem dJ7_fill_d0a16_0 : decode cJ7_fill_d0a16 0 = .ok (.iconst 0, 1) := by decide +kernel
theorem dJ7_fill_d0a16_1 : decode cJ7_fill_d0a16 1 = .ok (.istore_n 3, 1) := by decide +kernel
theorem dJ7_fill_d0a16_2 : decode cJ7_fill_d0a16 2 = .ok (.aload_n 0, 1) := by decide +kernel
theorem dJ7_fill_d0a16_3 : decode cJ7_fill_d0a16 3 = .ok (.arraylength, 1) := by decide +kernel
theorem dJ7_fill_d0a16_4 : decode cJ7_fill_d0a16 4 = .ok (.istore 4, 2) := by decide +kernel
theorem dJ7_fill_d0a16_6 : decode cJ7_fill_d0a16 6 = .ok (.iload_n 3, 1) := by decide +kernel
theorem dJ7_fill_d0a16_7 : decode cJ7_fill_d0a16 7 = .ok (.iload 4, 2) := by decide +kernel
theorem dJ7_fill_d0a16_9 : decode cJ7_fill_d0a16 9 = .ok (.if_icmp .ge 13, 3) := by decide +kernel
theorem dJ7_fill_d0a16_12 : decode cJ7_fill_d0a16 12 = .ok (.aload_n 0, 1) := by decide +kernel
theorem dJ7_fill_d0a16_13 : decode cJ7_fill_d0a16 13 = .ok (.iload_n 3, 1) := by decide +kernel
theorem dJ7_fill_d0a16_14 : decode cJ7_fill_d0a16 14 = .ok (.lload_n 1, 1) := by decide +kernel
theorem dJ7_fill_d0a16_15 : decode cJ7_fill_d0a16 15 = .ok (.lastore, 1) := by decide +kernel
theorem dJ7_fill_d0a16_16 : decode cJ7_fill_d0a16 16 = .ok (.iinc 3 1, 3) := by decide +kernel
theorem dJ7_fill_d0a16_19 : decode cJ7_fill_d0a16 19 = .ok (.goto (-13), 3) := by decide +kernel
theorem dJ7_fill_d0a16_22 : decode cJ7_fill_d0a16 22 = .ok (.return_, 1) := by decide +kernel
set_option maxRecDepth 20000 in
theorem dL_law_0 : decode cL_law 0 = .ok (.new 7, 3) := by decide +kernel
theorem dL_law_3 : decode cL_law 3 = .ok (.dup, 1) := by decide +kernel
theorem dL_law_4 : decode cL_law 4 = .ok (.invokespecial 9, 3) := by decide +kernel
theorem dL_law_7 : decode cL_law 7 = .ok (.astore_n 1, 1) := by decide +kernel
theorem dL_law_8 : decode cL_law 8 = .ok (.new 10, 3) := by decide +kernel
theorem dL_law_11 : decode cL_law 11 = .ok (.dup, 1) := by decide +kernel
theorem dL_law_12 : decode cL_law 12 = .ok (.invokespecial 12, 3) := by decide +kernel
theorem dL_law_15 : decode cL_law 15 = .ok (.astore_n 2, 1) := by decide +kernel
theorem dL_law_16 : decode cL_law 16 = .ok (.iconst 0, 1) := by decide +kernel
theorem dL_law_17 : decode cL_law 17 = .ok (.istore_n 3, 1) := by decide +kernel
theorem dL_law_18 : decode cL_law 18 = .ok (.iload_n 3, 1) := by decide +kernel
theorem dL_law_19 : decode cL_law 19 = .ok (.aload_n 0, 1) := by decide +kernel
theorem dL_law_20 : decode cL_law 20 = .ok (.arraylength, 1) := by decide +kernel
theorem dL_law_21 : decode cL_law 21 = .ok (.bipush 6, 2) := by decide +kernel
theorem dL_law_23 : decode cL_law 23 = .ok (.isub, 1) := by decide +kernel
theorem dL_law_24 : decode cL_law 24 = .ok (.if_icmp .gt 1097, 3) := by decide +kernel
theorem dL_law_27 : decode cL_law 27 = .ok (.aload_n 0, 1) := by decide +kernel
theorem dL_law_28 : decode cL_law 28 = .ok (.iload_n 3, 1) := by decide +kernel
theorem dL_law_29 : decode cL_law 29 = .ok (.iaload, 1) := by decide +kernel
theorem dL_law_30 : decode cL_law 30 = .ok (.bipush 31, 2) := by decide +kernel
theorem dL_law_32 : decode cL_law 32 = .ok (.iand, 1) := by decide +kernel
theorem dL_law_33 : decode cL_law 33 = .ok (.tableswitch 1082 0 28 #[131, 194, 207, 270, 319, 352, 385, 429, 453, 476, 499, 532, 555, 588, 621, 654, 698, 742, 776, 820, 864, 897, 951, 974, 987, 1000, 1033, 1046, 1059], 131) := by decide +kernel
theorem dL_law_164 : decode cL_law 164 = .ok (.aload_n 1, 1) := by decide +kernel
theorem dL_law_165 : decode cL_law 165 = .ok (.aload_n 0, 1) := by decide +kernel
theorem dL_law_166 : decode cL_law 166 = .ok (.iload_n 3, 1) := by decide +kernel
theorem dL_law_167 : decode cL_law 167 = .ok (.iconst 1, 1) := by decide +kernel
theorem dL_law_168 : decode cL_law 168 = .ok (.iadd, 1) := by decide +kernel
theorem dL_law_169 : decode cL_law 169 = .ok (.iaload, 1) := by decide +kernel
theorem dL_law_170 : decode cL_law 170 = .ok (.aload_n 0, 1) := by decide +kernel
theorem dL_law_171 : decode cL_law 171 = .ok (.iload_n 3, 1) := by decide +kernel
theorem dL_law_172 : decode cL_law 172 = .ok (.iconst 2, 1) := by decide +kernel
theorem dL_law_173 : decode cL_law 173 = .ok (.iadd, 1) := by decide +kernel
theorem dL_law_174 : decode cL_law 174 = .ok (.iaload, 1) := by decide +kernel
theorem dL_law_175 : decode cL_law 175 = .ok (.i2l, 1) := by decide +kernel
theorem dL_law_176 : decode cL_law 176 = .ok (.bipush 32, 2) := by decide +kernel
theorem dL_law_178 : decode cL_law 178 = .ok (.lshl, 1) := by decide +kernel
theorem dL_law_179 : decode cL_law 179 = .ok (.aload_n 0, 1) := by decide +kernel
theorem dL_law_180 : decode cL_law 180 = .ok (.iload_n 3, 1) := by decide +kernel
theorem dL_law_181 : decode cL_law 181 = .ok (.iconst 3, 1) := by decide +kernel
theorem dL_law_182 : decode cL_law 182 = .ok (.iadd, 1) := by decide +kernel
theorem dL_law_183 : decode cL_law 183 = .ok (.iaload, 1) := by decide +kernel
theorem dL_law_184 : decode cL_law 184 = .ok (.i2l, 1) := by decide +kernel
theorem dL_law_185 : decode cL_law 185 = .ok (.ldc2_w 13, 3) := by decide +kernel
theorem dL_law_188 : decode cL_law 188 = .ok (.land, 1) := by decide +kernel
theorem dL_law_189 : decode cL_law 189 = .ok (.lor, 1) := by decide +kernel
theorem dL_law_190 : decode cL_law 190 = .ok (.invokevirtual 15, 3) := by decide +kernel
theorem dL_law_193 : decode cL_law 193 = .ok (.aload_n 2, 1) := by decide +kernel
theorem dL_law_194 : decode cL_law 194 = .ok (.aload_n 0, 1) := by decide +kernel
theorem dL_law_195 : decode cL_law 195 = .ok (.iload_n 3, 1) := by decide +kernel
theorem dL_law_196 : decode cL_law 196 = .ok (.iconst 1, 1) := by decide +kernel
theorem dL_law_197 : decode cL_law 197 = .ok (.iadd, 1) := by decide +kernel
theorem dL_law_198 : decode cL_law 198 = .ok (.iaload, 1) := by decide +kernel
theorem dL_law_199 : decode cL_law 199 = .ok (.aload_n 0, 1) := by decide +kernel
theorem dL_law_200 : decode cL_law 200 = .ok (.iload_n 3, 1) := by decide +kernel
theorem dL_law_201 : decode cL_law 201 = .ok (.iconst 2, 1) := by decide +kernel
theorem dL_law_202 : decode cL_law 202 = .ok (.iadd, 1) := by decide +kernel
theorem dL_law_203 : decode cL_law 203 = .ok (.iaload, 1) := by decide +kernel
theorem dL_law_204 : decode cL_law 204 = .ok (.i2l, 1) := by decide +kernel
theorem dL_law_205 : decode cL_law 205 = .ok (.bipush 32, 2) := by decide +kernel
theorem dL_law_207 : decode cL_law 207 = .ok (.lshl, 1) := by decide +kernel
theorem dL_law_208 : decode cL_law 208 = .ok (.aload_n 0, 1) := by decide +kernel
theorem dL_law_209 : decode cL_law 209 = .ok (.iload_n 3, 1) := by decide +kernel
theorem dL_law_210 : decode cL_law 210 = .ok (.iconst 3, 1) := by decide +kernel
theorem dL_law_211 : decode cL_law 211 = .ok (.iadd, 1) := by decide +kernel
theorem dL_law_212 : decode cL_law 212 = .ok (.iaload, 1) := by decide +kernel
theorem dL_law_213 : decode cL_law 213 = .ok (.i2l, 1) := by decide +kernel
theorem dL_law_214 : decode cL_law 214 = .ok (.ldc2_w 13, 3) := by decide +kernel
theorem dL_law_217 : decode cL_law 217 = .ok (.land, 1) := by decide +kernel
theorem dL_law_218 : decode cL_law 218 = .ok (.lor, 1) := by decide +kernel
theorem dL_law_219 : decode cL_law 219 = .ok (.invokevirtual 19, 3) := by decide +kernel
theorem dL_law_222 : decode cL_law 222 = .ok (.if_icmp .eq 893, 3) := by decide +kernel
theorem dL_law_225 : decode cL_law 225 = .ok (.iconst 0, 1) := by decide +kernel
theorem dL_law_226 : decode cL_law 226 = .ok (.ireturn, 1) := by decide +kernel
theorem dL_law_227 : decode cL_law 227 = .ok (.aload_n 1, 1) := by decide +kernel
theorem dL_law_228 : decode cL_law 228 = .ok (.invokevirtual 20, 3) := by decide +kernel
theorem dL_law_231 : decode cL_law 231 = .ok (.aload_n 2, 1) := by decide +kernel
theorem dL_law_232 : decode cL_law 232 = .ok (.invokevirtual 24, 3) := by decide +kernel
theorem dL_law_235 : decode cL_law 235 = .ok (.if_icmp .eq 880, 3) := by decide +kernel
theorem dL_law_238 : decode cL_law 238 = .ok (.iconst 0, 1) := by decide +kernel
theorem dL_law_239 : decode cL_law 239 = .ok (.ireturn, 1) := by decide +kernel
theorem dL_law_240 : decode cL_law 240 = .ok (.aload_n 1, 1) := by decide +kernel
theorem dL_law_241 : decode cL_law 241 = .ok (.aload_n 0, 1) := by decide +kernel
theorem dL_law_242 : decode cL_law 242 = .ok (.iload_n 3, 1) := by decide +kernel
theorem dL_law_243 : decode cL_law 243 = .ok (.iconst 1, 1) := by decide +kernel
theorem dL_law_244 : decode cL_law 244 = .ok (.iadd, 1) := by decide +kernel
theorem dL_law_245 : decode cL_law 245 = .ok (.iaload, 1) := by decide +kernel
theorem dL_law_246 : decode cL_law 246 = .ok (.aload_n 0, 1) := by decide +kernel
theorem dL_law_247 : decode cL_law 247 = .ok (.iload_n 3, 1) := by decide +kernel
theorem dL_law_248 : decode cL_law 248 = .ok (.iconst 2, 1) := by decide +kernel
theorem dL_law_249 : decode cL_law 249 = .ok (.iadd, 1) := by decide +kernel
theorem dL_law_250 : decode cL_law 250 = .ok (.iaload, 1) := by decide +kernel
theorem dL_law_251 : decode cL_law 251 = .ok (.aload_n 0, 1) := by decide +kernel
theorem dL_law_252 : decode cL_law 252 = .ok (.iload_n 3, 1) := by decide +kernel
theorem dL_law_253 : decode cL_law 253 = .ok (.iconst 3, 1) := by decide +kernel
theorem dL_law_254 : decode cL_law 254 = .ok (.iadd, 1) := by decide +kernel
theorem dL_law_255 : decode cL_law 255 = .ok (.iaload, 1) := by decide +kernel
theorem dL_law_256 : decode cL_law 256 = .ok (.aload_n 0, 1) := by decide +kernel
theorem dL_law_257 : decode cL_law 257 = .ok (.iload_n 3, 1) := by decide +kernel
theorem dL_law_258 : decode cL_law 258 = .ok (.iconst 4, 1) := by decide +kernel
theorem dL_law_259 : decode cL_law 259 = .ok (.iadd, 1) := by decide +kernel
theorem dL_law_260 : decode cL_law 260 = .ok (.iaload, 1) := by decide +kernel
theorem dL_law_261 : decode cL_law 261 = .ok (.aload_n 0, 1) := by decide +kernel
theorem dL_law_262 : decode cL_law 262 = .ok (.iload_n 3, 1) := by decide +kernel
theorem dL_law_263 : decode cL_law 263 = .ok (.iconst 5, 1) := by decide +kernel
theorem dL_law_264 : decode cL_law 264 = .ok (.iadd, 1) := by decide +kernel
theorem dL_law_265 : decode cL_law 265 = .ok (.iaload, 1) := by decide +kernel
theorem dL_law_266 : decode cL_law 266 = .ok (.invokevirtual 25, 3) := by decide +kernel
theorem dL_law_269 : decode cL_law 269 = .ok (.aload_n 2, 1) := by decide +kernel
theorem dL_law_270 : decode cL_law 270 = .ok (.aload_n 0, 1) := by decide +kernel
theorem dL_law_271 : decode cL_law 271 = .ok (.iload_n 3, 1) := by decide +kernel
theorem dL_law_272 : decode cL_law 272 = .ok (.iconst 1, 1) := by decide +kernel
theorem dL_law_273 : decode cL_law 273 = .ok (.iadd, 1) := by decide +kernel
theorem dL_law_274 : decode cL_law 274 = .ok (.iaload, 1) := by decide +kernel
theorem dL_law_275 : decode cL_law 275 = .ok (.aload_n 0, 1) := by decide +kernel
theorem dL_law_276 : decode cL_law 276 = .ok (.iload_n 3, 1) := by decide +kernel
theorem dL_law_277 : decode cL_law 277 = .ok (.iconst 2, 1) := by decide +kernel
theorem dL_law_278 : decode cL_law 278 = .ok (.iadd, 1) := by decide +kernel
theorem dL_law_279 : decode cL_law 279 = .ok (.iaload, 1) := by decide +kernel
theorem dL_law_280 : decode cL_law 280 = .ok (.aload_n 0, 1) := by decide +kernel
theorem dL_law_281 : decode cL_law 281 = .ok (.iload_n 3, 1) := by decide +kernel
theorem dL_law_282 : decode cL_law 282 = .ok (.iconst 3, 1) := by decide +kernel
theorem dL_law_283 : decode cL_law 283 = .ok (.iadd, 1) := by decide +kernel
theorem dL_law_284 : decode cL_law 284 = .ok (.iaload, 1) := by decide +kernel
theorem dL_law_285 : decode cL_law 285 = .ok (.aload_n 0, 1) := by decide +kernel
theorem dL_law_286 : decode cL_law 286 = .ok (.iload_n 3, 1) := by decide +kernel
theorem dL_law_287 : decode cL_law 287 = .ok (.iconst 4, 1) := by decide +kernel
theorem dL_law_288 : decode cL_law 288 = .ok (.iadd, 1) := by decide +kernel
theorem dL_law_289 : decode cL_law 289 = .ok (.iaload, 1) := by decide +kernel
theorem dL_law_290 : decode cL_law 290 = .ok (.aload_n 0, 1) := by decide +kernel
theorem dL_law_291 : decode cL_law 291 = .ok (.iload_n 3, 1) := by decide +kernel
theorem dL_law_292 : decode cL_law 292 = .ok (.iconst 5, 1) := by decide +kernel
theorem dL_law_293 : decode cL_law 293 = .ok (.iadd, 1) := by decide +kernel
theorem dL_law_294 : decode cL_law 294 = .ok (.iaload, 1) := by decide +kernel
theorem dL_law_295 : decode cL_law 295 = .ok (.invokevirtual 29, 3) := by decide +kernel
theorem dL_law_298 : decode cL_law 298 = .ok (.if_icmp .eq 817, 3) := by decide +kernel
theorem dL_law_301 : decode cL_law 301 = .ok (.iconst 0, 1) := by decide +kernel
theorem dL_law_302 : decode cL_law 302 = .ok (.ireturn, 1) := by decide +kernel
theorem dL_law_303 : decode cL_law 303 = .ok (.aload_n 1, 1) := by decide +kernel
theorem dL_law_304 : decode cL_law 304 = .ok (.aload_n 0, 1) := by decide +kernel
theorem dL_law_305 : decode cL_law 305 = .ok (.iload_n 3, 1) := by decide +kernel
theorem dL_law_306 : decode cL_law 306 = .ok (.iconst 1, 1) := by decide +kernel
theorem dL_law_307 : decode cL_law 307 = .ok (.iadd, 1) := by decide +kernel
theorem dL_law_308 : decode cL_law 308 = .ok (.iaload, 1) := by decide +kernel
theorem dL_law_309 : decode cL_law 309 = .ok (.aload_n 0, 1) := by decide +kernel
theorem dL_law_310 : decode cL_law 310 = .ok (.iload_n 3, 1) := by decide +kernel
theorem dL_law_311 : decode cL_law 311 = .ok (.iconst 2, 1) := by decide +kernel
theorem dL_law_312 : decode cL_law 312 = .ok (.iadd, 1) := by decide +kernel
theorem dL_law_313 : decode cL_law 313 = .ok (.iaload, 1) := by decide +kernel
theorem dL_law_314 : decode cL_law 314 = .ok (.ifCond .eq 7, 3) := by decide +kernel
theorem dL_law_317 : decode cL_law 317 = .ok (.iconst 1, 1) := by decide +kernel
theorem dL_law_318 : decode cL_law 318 = .ok (.goto 4, 3) := by decide +kernel
theorem dL_law_321 : decode cL_law 321 = .ok (.iconst 0, 1) := by decide +kernel
theorem dL_law_322 : decode cL_law 322 = .ok (.invokevirtual 30, 3) := by decide +kernel
theorem dL_law_325 : decode cL_law 325 = .ok (.aload_n 2, 1) := by decide +kernel
theorem dL_law_326 : decode cL_law 326 = .ok (.aload_n 0, 1) := by decide +kernel
theorem dL_law_327 : decode cL_law 327 = .ok (.iload_n 3, 1) := by decide +kernel
theorem dL_law_328 : decode cL_law 328 = .ok (.iconst 1, 1) := by decide +kernel
theorem dL_law_329 : decode cL_law 329 = .ok (.iadd, 1) := by decide +kernel
theorem dL_law_330 : decode cL_law 330 = .ok (.iaload, 1) := by decide +kernel
theorem dL_law_331 : decode cL_law 331 = .ok (.aload_n 0, 1) := by decide +kernel
theorem dL_law_332 : decode cL_law 332 = .ok (.iload_n 3, 1) := by decide +kernel
theorem dL_law_333 : decode cL_law 333 = .ok (.iconst 2, 1) := by decide +kernel
theorem dL_law_334 : decode cL_law 334 = .ok (.iadd, 1) := by decide +kernel
theorem dL_law_335 : decode cL_law 335 = .ok (.iaload, 1) := by decide +kernel
theorem dL_law_336 : decode cL_law 336 = .ok (.ifCond .eq 7, 3) := by decide +kernel
theorem dL_law_339 : decode cL_law 339 = .ok (.iconst 1, 1) := by decide +kernel
theorem dL_law_340 : decode cL_law 340 = .ok (.goto 4, 3) := by decide +kernel
theorem dL_law_343 : decode cL_law 343 = .ok (.iconst 0, 1) := by decide +kernel
theorem dL_law_344 : decode cL_law 344 = .ok (.invokevirtual 34, 3) := by decide +kernel
theorem dL_law_347 : decode cL_law 347 = .ok (.if_icmp .eq 768, 3) := by decide +kernel
theorem dL_law_350 : decode cL_law 350 = .ok (.iconst 0, 1) := by decide +kernel
theorem dL_law_351 : decode cL_law 351 = .ok (.ireturn, 1) := by decide +kernel
theorem dL_law_352 : decode cL_law 352 = .ok (.aload_n 1, 1) := by decide +kernel
theorem dL_law_353 : decode cL_law 353 = .ok (.aload_n 0, 1) := by decide +kernel
theorem dL_law_354 : decode cL_law 354 = .ok (.iload_n 3, 1) := by decide +kernel
theorem dL_law_355 : decode cL_law 355 = .ok (.iconst 1, 1) := by decide +kernel
theorem dL_law_356 : decode cL_law 356 = .ok (.iadd, 1) := by decide +kernel
theorem dL_law_357 : decode cL_law 357 = .ok (.iaload, 1) := by decide +kernel
theorem dL_law_358 : decode cL_law 358 = .ok (.aload_n 0, 1) := by decide +kernel
theorem dL_law_359 : decode cL_law 359 = .ok (.iload_n 3, 1) := by decide +kernel
theorem dL_law_360 : decode cL_law 360 = .ok (.iconst 2, 1) := by decide +kernel
theorem dL_law_361 : decode cL_law 361 = .ok (.iadd, 1) := by decide +kernel
theorem dL_law_362 : decode cL_law 362 = .ok (.iaload, 1) := by decide +kernel
theorem dL_law_363 : decode cL_law 363 = .ok (.invokevirtual 35, 3) := by decide +kernel
theorem dL_law_366 : decode cL_law 366 = .ok (.aload_n 2, 1) := by decide +kernel
theorem dL_law_367 : decode cL_law 367 = .ok (.aload_n 0, 1) := by decide +kernel
theorem dL_law_368 : decode cL_law 368 = .ok (.iload_n 3, 1) := by decide +kernel
theorem dL_law_369 : decode cL_law 369 = .ok (.iconst 1, 1) := by decide +kernel
theorem dL_law_370 : decode cL_law 370 = .ok (.iadd, 1) := by decide +kernel
theorem dL_law_371 : decode cL_law 371 = .ok (.iaload, 1) := by decide +kernel
theorem dL_law_372 : decode cL_law 372 = .ok (.aload_n 0, 1) := by decide +kernel
theorem dL_law_373 : decode cL_law 373 = .ok (.iload_n 3, 1) := by decide +kernel
theorem dL_law_374 : decode cL_law 374 = .ok (.iconst 2, 1) := by decide +kernel
theorem dL_law_375 : decode cL_law 375 = .ok (.iadd, 1) := by decide +kernel
theorem dL_law_376 : decode cL_law 376 = .ok (.iaload, 1) := by decide +kernel
theorem dL_law_377 : decode cL_law 377 = .ok (.invokevirtual 39, 3) := by decide +kernel
theorem dL_law_380 : decode cL_law 380 = .ok (.if_icmp .eq 735, 3) := by decide +kernel
theorem dL_law_383 : decode cL_law 383 = .ok (.iconst 0, 1) := by decide +kernel
theorem dL_law_384 : decode cL_law 384 = .ok (.ireturn, 1) := by decide +kernel
theorem dL_law_385 : decode cL_law 385 = .ok (.aload_n 1, 1) := by decide +kernel
theorem dL_law_386 : decode cL_law 386 = .ok (.aload_n 0, 1) := by decide +kernel
theorem dL_law_387 : decode cL_law 387 = .ok (.iload_n 3, 1) := by decide +kernel
theorem dL_law_388 : decode cL_law 388 = .ok (.iconst 1, 1) := by decide +kernel
theorem dL_law_389 : decode cL_law 389 = .ok (.iadd, 1) := by decide +kernel
theorem dL_law_390 : decode cL_law 390 = .ok (.iaload, 1) := by decide +kernel
theorem dL_law_391 : decode cL_law 391 = .ok (.aload_n 0, 1) := by decide +kernel
theorem dL_law_392 : decode cL_law 392 = .ok (.iload_n 3, 1) := by decide +kernel
theorem dL_law_393 : decode cL_law 393 = .ok (.iconst 2, 1) := by decide +kernel
theorem dL_law_394 : decode cL_law 394 = .ok (.iadd, 1) := by decide +kernel
theorem dL_law_395 : decode cL_law 395 = .ok (.iaload, 1) := by decide +kernel
theorem dL_law_396 : decode cL_law 396 = .ok (.invokevirtual 40, 3) := by decide +kernel
theorem dL_law_399 : decode cL_law 399 = .ok (.aload_n 2, 1) := by decide +kernel
theorem dL_law_400 : decode cL_law 400 = .ok (.aload_n 0, 1) := by decide +kernel
theorem dL_law_401 : decode cL_law 401 = .ok (.iload_n 3, 1) := by decide +kernel
theorem dL_law_402 : decode cL_law 402 = .ok (.iconst 1, 1) := by decide +kernel
theorem dL_law_403 : decode cL_law 403 = .ok (.iadd, 1) := by decide +kernel
theorem dL_law_404 : decode cL_law 404 = .ok (.iaload, 1) := by decide +kernel
theorem dL_law_405 : decode cL_law 405 = .ok (.aload_n 0, 1) := by decide +kernel
theorem dL_law_406 : decode cL_law 406 = .ok (.iload_n 3, 1) := by decide +kernel
theorem dL_law_407 : decode cL_law 407 = .ok (.iconst 2, 1) := by decide +kernel
theorem dL_law_408 : decode cL_law 408 = .ok (.iadd, 1) := by decide +kernel
theorem dL_law_409 : decode cL_law 409 = .ok (.iaload, 1) := by decide +kernel
theorem dL_law_410 : decode cL_law 410 = .ok (.invokevirtual 43, 3) := by decide +kernel
theorem dL_law_413 : decode cL_law 413 = .ok (.if_icmp .eq 702, 3) := by decide +kernel
theorem dL_law_416 : decode cL_law 416 = .ok (.iconst 0, 1) := by decide +kernel
theorem dL_law_417 : decode cL_law 417 = .ok (.ireturn, 1) := by decide +kernel
theorem dL_law_418 : decode cL_law 418 = .ok (.aload_n 1, 1) := by decide +kernel
theorem dL_law_419 : decode cL_law 419 = .ok (.aload_n 0, 1) := by decide +kernel
theorem dL_law_420 : decode cL_law 420 = .ok (.iload_n 3, 1) := by decide +kernel
theorem dL_law_421 : decode cL_law 421 = .ok (.iconst 1, 1) := by decide +kernel
theorem dL_law_422 : decode cL_law 422 = .ok (.iadd, 1) := by decide +kernel
theorem dL_law_423 : decode cL_law 423 = .ok (.iaload, 1) := by decide +kernel
theorem dL_law_424 : decode cL_law 424 = .ok (.aload_n 0, 1) := by decide +kernel
theorem dL_law_425 : decode cL_law 425 = .ok (.iload_n 3, 1) := by decide +kernel
theorem dL_law_426 : decode cL_law 426 = .ok (.iconst 2, 1) := by decide +kernel
theorem dL_law_427 : decode cL_law 427 = .ok (.iadd, 1) := by decide +kernel
theorem dL_law_428 : decode cL_law 428 = .ok (.iaload, 1) := by decide +kernel
theorem dL_law_429 : decode cL_law 429 = .ok (.aload_n 0, 1) := by decide +kernel
theorem dL_law_430 : decode cL_law 430 = .ok (.iload_n 3, 1) := by decide +kernel
theorem dL_law_431 : decode cL_law 431 = .ok (.iconst 3, 1) := by decide +kernel
theorem dL_law_432 : decode cL_law 432 = .ok (.iadd, 1) := by decide +kernel
theorem dL_law_433 : decode cL_law 433 = .ok (.iaload, 1) := by decide +kernel
theorem dL_law_434 : decode cL_law 434 = .ok (.invokevirtual 44, 3) := by decide +kernel
theorem dL_law_437 : decode cL_law 437 = .ok (.aload_n 2, 1) := by decide +kernel
theorem dL_law_438 : decode cL_law 438 = .ok (.aload_n 0, 1) := by decide +kernel
theorem dL_law_439 : decode cL_law 439 = .ok (.iload_n 3, 1) := by decide +kernel
theorem dL_law_440 : decode cL_law 440 = .ok (.iconst 1, 1) := by decide +kernel
theorem dL_law_441 : decode cL_law 441 = .ok (.iadd, 1) := by decide +kernel
theorem dL_law_442 : decode cL_law 442 = .ok (.iaload, 1) := by decide +kernel
theorem dL_law_443 : decode cL_law 443 = .ok (.aload_n 0, 1) := by decide +kernel
theorem dL_law_444 : decode cL_law 444 = .ok (.iload_n 3, 1) := by decide +kernel
theorem dL_law_445 : decode cL_law 445 = .ok (.iconst 2, 1) := by decide +kernel
theorem dL_law_446 : decode cL_law 446 = .ok (.iadd, 1) := by decide +kernel
theorem dL_law_447 : decode cL_law 447 = .ok (.iaload, 1) := by decide +kernel
theorem dL_law_448 : decode cL_law 448 = .ok (.aload_n 0, 1) := by decide +kernel
theorem dL_law_449 : decode cL_law 449 = .ok (.iload_n 3, 1) := by decide +kernel
theorem dL_law_450 : decode cL_law 450 = .ok (.iconst 3, 1) := by decide +kernel
theorem dL_law_451 : decode cL_law 451 = .ok (.iadd, 1) := by decide +kernel
theorem dL_law_452 : decode cL_law 452 = .ok (.iaload, 1) := by decide +kernel
theorem dL_law_453 : decode cL_law 453 = .ok (.invokevirtual 48, 3) := by decide +kernel
theorem dL_law_456 : decode cL_law 456 = .ok (.lcmp, 1) := by decide +kernel
theorem dL_law_457 : decode cL_law 457 = .ok (.ifCond .eq 658, 3) := by decide +kernel
theorem dL_law_460 : decode cL_law 460 = .ok (.iconst 0, 1) := by decide +kernel
theorem dL_law_461 : decode cL_law 461 = .ok (.ireturn, 1) := by decide +kernel
theorem dL_law_462 : decode cL_law 462 = .ok (.aload_n 1, 1) := by decide +kernel
theorem dL_law_463 : decode cL_law 463 = .ok (.aload_n 0, 1) := by decide +kernel
theorem dL_law_464 : decode cL_law 464 = .ok (.iload_n 3, 1) := by decide +kernel
theorem dL_law_465 : decode cL_law 465 = .ok (.iconst 1, 1) := by decide +kernel
theorem dL_law_466 : decode cL_law 466 = .ok (.iadd, 1) := by decide +kernel
theorem dL_law_467 : decode cL_law 467 = .ok (.iaload, 1) := by decide +kernel
theorem dL_law_468 : decode cL_law 468 = .ok (.invokevirtual 49, 3) := by decide +kernel
theorem dL_law_471 : decode cL_law 471 = .ok (.aload_n 2, 1) := by decide +kernel
theorem dL_law_472 : decode cL_law 472 = .ok (.aload_n 0, 1) := by decide +kernel
theorem dL_law_473 : decode cL_law 473 = .ok (.iload_n 3, 1) := by decide +kernel
theorem dL_law_474 : decode cL_law 474 = .ok (.iconst 1, 1) := by decide +kernel
theorem dL_law_475 : decode cL_law 475 = .ok (.iadd, 1) := by decide +kernel
theorem dL_law_476 : decode cL_law 476 = .ok (.iaload, 1) := by decide +kernel
theorem dL_law_477 : decode cL_law 477 = .ok (.invokevirtual 53, 3) := by decide +kernel
theorem dL_law_480 : decode cL_law 480 = .ok (.lcmp, 1) := by decide +kernel
theorem dL_law_481 : decode cL_law 481 = .ok (.ifCond .eq 634, 3) := by decide +kernel
theorem dL_law_484 : decode cL_law 484 = .ok (.iconst 0, 1) := by decide +kernel
theorem dL_law_485 : decode cL_law 485 = .ok (.ireturn, 1) := by decide +kernel
theorem dL_law_486 : decode cL_law 486 = .ok (.aload_n 1, 1) := by decide +kernel
theorem dL_law_487 : decode cL_law 487 = .ok (.aload_n 0, 1) := by decide +kernel
theorem dL_law_488 : decode cL_law 488 = .ok (.iload_n 3, 1) := by decide +kernel
theorem dL_law_489 : decode cL_law 489 = .ok (.iconst 1, 1) := by decide +kernel
theorem dL_law_490 : decode cL_law 490 = .ok (.iadd, 1) := by decide +kernel
theorem dL_law_491 : decode cL_law 491 = .ok (.iaload, 1) := by decide +kernel
theorem dL_law_492 : decode cL_law 492 = .ok (.invokevirtual 54, 3) := by decide +kernel
theorem dL_law_495 : decode cL_law 495 = .ok (.aload_n 2, 1) := by decide +kernel
theorem dL_law_496 : decode cL_law 496 = .ok (.aload_n 0, 1) := by decide +kernel
theorem dL_law_497 : decode cL_law 497 = .ok (.iload_n 3, 1) := by decide +kernel
theorem dL_law_498 : decode cL_law 498 = .ok (.iconst 1, 1) := by decide +kernel
theorem dL_law_499 : decode cL_law 499 = .ok (.iadd, 1) := by decide +kernel
theorem dL_law_500 : decode cL_law 500 = .ok (.iaload, 1) := by decide +kernel
theorem dL_law_501 : decode cL_law 501 = .ok (.invokevirtual 58, 3) := by decide +kernel
theorem dL_law_504 : decode cL_law 504 = .ok (.if_icmp .eq 611, 3) := by decide +kernel
theorem dL_law_507 : decode cL_law 507 = .ok (.iconst 0, 1) := by decide +kernel
theorem dL_law_508 : decode cL_law 508 = .ok (.ireturn, 1) := by decide +kernel
theorem dL_law_509 : decode cL_law 509 = .ok (.aload_n 1, 1) := by decide +kernel
theorem dL_law_510 : decode cL_law 510 = .ok (.aload_n 0, 1) := by decide +kernel
theorem dL_law_511 : decode cL_law 511 = .ok (.iload_n 3, 1) := by decide +kernel
theorem dL_law_512 : decode cL_law 512 = .ok (.iconst 1, 1) := by decide +kernel
theorem dL_law_513 : decode cL_law 513 = .ok (.iadd, 1) := by decide +kernel
theorem dL_law_514 : decode cL_law 514 = .ok (.iaload, 1) := by decide +kernel
theorem dL_law_515 : decode cL_law 515 = .ok (.invokevirtual 59, 3) := by decide +kernel
theorem dL_law_518 : decode cL_law 518 = .ok (.aload_n 2, 1) := by decide +kernel
theorem dL_law_519 : decode cL_law 519 = .ok (.aload_n 0, 1) := by decide +kernel
theorem dL_law_520 : decode cL_law 520 = .ok (.iload_n 3, 1) := by decide +kernel
theorem dL_law_521 : decode cL_law 521 = .ok (.iconst 1, 1) := by decide +kernel
theorem dL_law_522 : decode cL_law 522 = .ok (.iadd, 1) := by decide +kernel
theorem dL_law_523 : decode cL_law 523 = .ok (.iaload, 1) := by decide +kernel
theorem dL_law_524 : decode cL_law 524 = .ok (.invokevirtual 62, 3) := by decide +kernel
theorem dL_law_527 : decode cL_law 527 = .ok (.if_icmp .eq 588, 3) := by decide +kernel
theorem dL_law_530 : decode cL_law 530 = .ok (.iconst 0, 1) := by decide +kernel
theorem dL_law_531 : decode cL_law 531 = .ok (.ireturn, 1) := by decide +kernel
theorem dL_law_532 : decode cL_law 532 = .ok (.aload_n 1, 1) := by decide +kernel
theorem dL_law_533 : decode cL_law 533 = .ok (.aload_n 0, 1) := by decide +kernel
theorem dL_law_534 : decode cL_law 534 = .ok (.iload_n 3, 1) := by decide +kernel
theorem dL_law_535 : decode cL_law 535 = .ok (.iconst 1, 1) := by decide +kernel
theorem dL_law_536 : decode cL_law 536 = .ok (.iadd, 1) := by decide +kernel
theorem dL_law_537 : decode cL_law 537 = .ok (.iaload, 1) := by decide +kernel
theorem dL_law_538 : decode cL_law 538 = .ok (.aload_n 0, 1) := by decide +kernel
theorem dL_law_539 : decode cL_law 539 = .ok (.iload_n 3, 1) := by decide +kernel
theorem dL_law_540 : decode cL_law 540 = .ok (.iconst 2, 1) := by decide +kernel
theorem dL_law_541 : decode cL_law 541 = .ok (.iadd, 1) := by decide +kernel
theorem dL_law_542 : decode cL_law 542 = .ok (.iaload, 1) := by decide +kernel
theorem dL_law_543 : decode cL_law 543 = .ok (.invokevirtual 63, 3) := by decide +kernel
theorem dL_law_546 : decode cL_law 546 = .ok (.aload_n 2, 1) := by decide +kernel
theorem dL_law_547 : decode cL_law 547 = .ok (.aload_n 0, 1) := by decide +kernel
theorem dL_law_548 : decode cL_law 548 = .ok (.iload_n 3, 1) := by decide +kernel
theorem dL_law_549 : decode cL_law 549 = .ok (.iconst 1, 1) := by decide +kernel
theorem dL_law_550 : decode cL_law 550 = .ok (.iadd, 1) := by decide +kernel
theorem dL_law_551 : decode cL_law 551 = .ok (.iaload, 1) := by decide +kernel
theorem dL_law_552 : decode cL_law 552 = .ok (.aload_n 0, 1) := by decide +kernel
theorem dL_law_553 : decode cL_law 553 = .ok (.iload_n 3, 1) := by decide +kernel
theorem dL_law_554 : decode cL_law 554 = .ok (.iconst 2, 1) := by decide +kernel
theorem dL_law_555 : decode cL_law 555 = .ok (.iadd, 1) := by decide +kernel
theorem dL_law_556 : decode cL_law 556 = .ok (.iaload, 1) := by decide +kernel
theorem dL_law_557 : decode cL_law 557 = .ok (.invokevirtual 66, 3) := by decide +kernel
theorem dL_law_560 : decode cL_law 560 = .ok (.if_icmp .eq 555, 3) := by decide +kernel
theorem dL_law_563 : decode cL_law 563 = .ok (.iconst 0, 1) := by decide +kernel
theorem dL_law_564 : decode cL_law 564 = .ok (.ireturn, 1) := by decide +kernel
theorem dL_law_565 : decode cL_law 565 = .ok (.aload_n 1, 1) := by decide +kernel
theorem dL_law_566 : decode cL_law 566 = .ok (.aload_n 0, 1) := by decide +kernel
theorem dL_law_567 : decode cL_law 567 = .ok (.iload_n 3, 1) := by decide +kernel
theorem dL_law_568 : decode cL_law 568 = .ok (.iconst 1, 1) := by decide +kernel
theorem dL_law_569 : decode cL_law 569 = .ok (.iadd, 1) := by decide +kernel
theorem dL_law_570 : decode cL_law 570 = .ok (.iaload, 1) := by decide +kernel
theorem dL_law_571 : decode cL_law 571 = .ok (.invokevirtual 67, 3) := by decide +kernel
theorem dL_law_574 : decode cL_law 574 = .ok (.aload_n 2, 1) := by decide +kernel
theorem dL_law_575 : decode cL_law 575 = .ok (.aload_n 0, 1) := by decide +kernel
theorem dL_law_576 : decode cL_law 576 = .ok (.iload_n 3, 1) := by decide +kernel
theorem dL_law_577 : decode cL_law 577 = .ok (.iconst 1, 1) := by decide +kernel
theorem dL_law_578 : decode cL_law 578 = .ok (.iadd, 1) := by decide +kernel
theorem dL_law_579 : decode cL_law 579 = .ok (.iaload, 1) := by decide +kernel
theorem dL_law_580 : decode cL_law 580 = .ok (.invokevirtual 70, 3) := by decide +kernel
theorem dL_law_583 : decode cL_law 583 = .ok (.if_icmp .eq 532, 3) := by decide +kernel
theorem dL_law_586 : decode cL_law 586 = .ok (.iconst 0, 1) := by decide +kernel
theorem dL_law_587 : decode cL_law 587 = .ok (.ireturn, 1) := by decide +kernel
theorem dL_law_588 : decode cL_law 588 = .ok (.aload_n 1, 1) := by decide +kernel
theorem dL_law_589 : decode cL_law 589 = .ok (.aload_n 0, 1) := by decide +kernel
theorem dL_law_590 : decode cL_law 590 = .ok (.iload_n 3, 1) := by decide +kernel
theorem dL_law_591 : decode cL_law 591 = .ok (.iconst 1, 1) := by decide +kernel
theorem dL_law_592 : decode cL_law 592 = .ok (.iadd, 1) := by decide +kernel
theorem dL_law_593 : decode cL_law 593 = .ok (.iaload, 1) := by decide +kernel
theorem dL_law_594 : decode cL_law 594 = .ok (.aload_n 0, 1) := by decide +kernel
theorem dL_law_595 : decode cL_law 595 = .ok (.iload_n 3, 1) := by decide +kernel
theorem dL_law_596 : decode cL_law 596 = .ok (.iconst 2, 1) := by decide +kernel
theorem dL_law_597 : decode cL_law 597 = .ok (.iadd, 1) := by decide +kernel
theorem dL_law_598 : decode cL_law 598 = .ok (.iaload, 1) := by decide +kernel
theorem dL_law_599 : decode cL_law 599 = .ok (.invokevirtual 71, 3) := by decide +kernel
theorem dL_law_602 : decode cL_law 602 = .ok (.aload_n 2, 1) := by decide +kernel
theorem dL_law_603 : decode cL_law 603 = .ok (.aload_n 0, 1) := by decide +kernel
theorem dL_law_604 : decode cL_law 604 = .ok (.iload_n 3, 1) := by decide +kernel
theorem dL_law_605 : decode cL_law 605 = .ok (.iconst 1, 1) := by decide +kernel
theorem dL_law_606 : decode cL_law 606 = .ok (.iadd, 1) := by decide +kernel
theorem dL_law_607 : decode cL_law 607 = .ok (.iaload, 1) := by decide +kernel
theorem dL_law_608 : decode cL_law 608 = .ok (.aload_n 0, 1) := by decide +kernel
theorem dL_law_609 : decode cL_law 609 = .ok (.iload_n 3, 1) := by decide +kernel
theorem dL_law_610 : decode cL_law 610 = .ok (.iconst 2, 1) := by decide +kernel
theorem dL_law_611 : decode cL_law 611 = .ok (.iadd, 1) := by decide +kernel
theorem dL_law_612 : decode cL_law 612 = .ok (.iaload, 1) := by decide +kernel
theorem dL_law_613 : decode cL_law 613 = .ok (.invokevirtual 74, 3) := by decide +kernel
theorem dL_law_616 : decode cL_law 616 = .ok (.if_icmp .eq 499, 3) := by decide +kernel
theorem dL_law_619 : decode cL_law 619 = .ok (.iconst 0, 1) := by decide +kernel
theorem dL_law_620 : decode cL_law 620 = .ok (.ireturn, 1) := by decide +kernel
theorem dL_law_621 : decode cL_law 621 = .ok (.aload_n 1, 1) := by decide +kernel
theorem dL_law_622 : decode cL_law 622 = .ok (.aload_n 0, 1) := by decide +kernel
theorem dL_law_623 : decode cL_law 623 = .ok (.iload_n 3, 1) := by decide +kernel
theorem dL_law_624 : decode cL_law 624 = .ok (.iconst 1, 1) := by decide +kernel
theorem dL_law_625 : decode cL_law 625 = .ok (.iadd, 1) := by decide +kernel
theorem dL_law_626 : decode cL_law 626 = .ok (.iaload, 1) := by decide +kernel
theorem dL_law_627 : decode cL_law 627 = .ok (.aload_n 0, 1) := by decide +kernel
theorem dL_law_628 : decode cL_law 628 = .ok (.iload_n 3, 1) := by decide +kernel
theorem dL_law_629 : decode cL_law 629 = .ok (.iconst 2, 1) := by decide +kernel
theorem dL_law_630 : decode cL_law 630 = .ok (.iadd, 1) := by decide +kernel
theorem dL_law_631 : decode cL_law 631 = .ok (.iaload, 1) := by decide +kernel
theorem dL_law_632 : decode cL_law 632 = .ok (.invokevirtual 75, 3) := by decide +kernel
theorem dL_law_635 : decode cL_law 635 = .ok (.aload_n 2, 1) := by decide +kernel
theorem dL_law_636 : decode cL_law 636 = .ok (.aload_n 0, 1) := by decide +kernel
theorem dL_law_637 : decode cL_law 637 = .ok (.iload_n 3, 1) := by decide +kernel
theorem dL_law_638 : decode cL_law 638 = .ok (.iconst 1, 1) := by decide +kernel
theorem dL_law_639 : decode cL_law 639 = .ok (.iadd, 1) := by decide +kernel
theorem dL_law_640 : decode cL_law 640 = .ok (.iaload, 1) := by decide +kernel
theorem dL_law_641 : decode cL_law 641 = .ok (.aload_n 0, 1) := by decide +kernel
theorem dL_law_642 : decode cL_law 642 = .ok (.iload_n 3, 1) := by decide +kernel
theorem dL_law_643 : decode cL_law 643 = .ok (.iconst 2, 1) := by decide +kernel
theorem dL_law_644 : decode cL_law 644 = .ok (.iadd, 1) := by decide +kernel
theorem dL_law_645 : decode cL_law 645 = .ok (.iaload, 1) := by decide +kernel
theorem dL_law_646 : decode cL_law 646 = .ok (.invokevirtual 78, 3) := by decide +kernel
theorem dL_law_649 : decode cL_law 649 = .ok (.if_icmp .eq 466, 3) := by decide +kernel
theorem dL_law_652 : decode cL_law 652 = .ok (.iconst 0, 1) := by decide +kernel
theorem dL_law_653 : decode cL_law 653 = .ok (.ireturn, 1) := by decide +kernel
theorem dL_law_654 : decode cL_law 654 = .ok (.aload_n 1, 1) := by decide +kernel
theorem dL_law_655 : decode cL_law 655 = .ok (.aload_n 0, 1) := by decide +kernel
theorem dL_law_656 : decode cL_law 656 = .ok (.iload_n 3, 1) := by decide +kernel
theorem dL_law_657 : decode cL_law 657 = .ok (.iconst 1, 1) := by decide +kernel
theorem dL_law_658 : decode cL_law 658 = .ok (.iadd, 1) := by decide +kernel
theorem dL_law_659 : decode cL_law 659 = .ok (.iaload, 1) := by decide +kernel
theorem dL_law_660 : decode cL_law 660 = .ok (.aload_n 0, 1) := by decide +kernel
theorem dL_law_661 : decode cL_law 661 = .ok (.iload_n 3, 1) := by decide +kernel
theorem dL_law_662 : decode cL_law 662 = .ok (.iconst 2, 1) := by decide +kernel
theorem dL_law_663 : decode cL_law 663 = .ok (.iadd, 1) := by decide +kernel
theorem dL_law_664 : decode cL_law 664 = .ok (.iaload, 1) := by decide +kernel
theorem dL_law_665 : decode cL_law 665 = .ok (.invokevirtual 79, 3) := by decide +kernel
theorem dL_law_668 : decode cL_law 668 = .ok (.aload_n 2, 1) := by decide +kernel
theorem dL_law_669 : decode cL_law 669 = .ok (.aload_n 0, 1) := by decide +kernel
theorem dL_law_670 : decode cL_law 670 = .ok (.iload_n 3, 1) := by decide +kernel
theorem dL_law_671 : decode cL_law 671 = .ok (.iconst 1, 1) := by decide +kernel
theorem dL_law_672 : decode cL_law 672 = .ok (.iadd, 1) := by decide +kernel
theorem dL_law_673 : decode cL_law 673 = .ok (.iaload, 1) := by decide +kernel
theorem dL_law_674 : decode cL_law 674 = .ok (.aload_n 0, 1) := by decide +kernel
theorem dL_law_675 : decode cL_law 675 = .ok (.iload_n 3, 1) := by decide +kernel
theorem dL_law_676 : decode cL_law 676 = .ok (.iconst 2, 1) := by decide +kernel
theorem dL_law_677 : decode cL_law 677 = .ok (.iadd, 1) := by decide +kernel
theorem dL_law_678 : decode cL_law 678 = .ok (.iaload, 1) := by decide +kernel
theorem dL_law_679 : decode cL_law 679 = .ok (.invokevirtual 82, 3) := by decide +kernel
theorem dL_law_682 : decode cL_law 682 = .ok (.if_icmp .eq 433, 3) := by decide +kernel
theorem dL_law_685 : decode cL_law 685 = .ok (.iconst 0, 1) := by decide +kernel
theorem dL_law_686 : decode cL_law 686 = .ok (.ireturn, 1) := by decide +kernel
theorem dL_law_687 : decode cL_law 687 = .ok (.aload_n 1, 1) := by decide +kernel
theorem dL_law_688 : decode cL_law 688 = .ok (.aload_n 0, 1) := by decide +kernel
theorem dL_law_689 : decode cL_law 689 = .ok (.iload_n 3, 1) := by decide +kernel
theorem dL_law_690 : decode cL_law 690 = .ok (.iconst 1, 1) := by decide +kernel
theorem dL_law_691 : decode cL_law 691 = .ok (.iadd, 1) := by decide +kernel
theorem dL_law_692 : decode cL_law 692 = .ok (.iaload, 1) := by decide +kernel
theorem dL_law_693 : decode cL_law 693 = .ok (.aload_n 0, 1) := by decide +kernel
theorem dL_law_694 : decode cL_law 694 = .ok (.iload_n 3, 1) := by decide +kernel
theorem dL_law_695 : decode cL_law 695 = .ok (.iconst 2, 1) := by decide +kernel
theorem dL_law_696 : decode cL_law 696 = .ok (.iadd, 1) := by decide +kernel
theorem dL_law_697 : decode cL_law 697 = .ok (.iaload, 1) := by decide +kernel
theorem dL_law_698 : decode cL_law 698 = .ok (.aload_n 0, 1) := by decide +kernel
theorem dL_law_699 : decode cL_law 699 = .ok (.iload_n 3, 1) := by decide +kernel
theorem dL_law_700 : decode cL_law 700 = .ok (.iconst 3, 1) := by decide +kernel
theorem dL_law_701 : decode cL_law 701 = .ok (.iadd, 1) := by decide +kernel
theorem dL_law_702 : decode cL_law 702 = .ok (.iaload, 1) := by decide +kernel
theorem dL_law_703 : decode cL_law 703 = .ok (.invokevirtual 83, 3) := by decide +kernel
theorem dL_law_706 : decode cL_law 706 = .ok (.aload_n 2, 1) := by decide +kernel
theorem dL_law_707 : decode cL_law 707 = .ok (.aload_n 0, 1) := by decide +kernel
theorem dL_law_708 : decode cL_law 708 = .ok (.iload_n 3, 1) := by decide +kernel
theorem dL_law_709 : decode cL_law 709 = .ok (.iconst 1, 1) := by decide +kernel
theorem dL_law_710 : decode cL_law 710 = .ok (.iadd, 1) := by decide +kernel
theorem dL_law_711 : decode cL_law 711 = .ok (.iaload, 1) := by decide +kernel
theorem dL_law_712 : decode cL_law 712 = .ok (.aload_n 0, 1) := by decide +kernel
theorem dL_law_713 : decode cL_law 713 = .ok (.iload_n 3, 1) := by decide +kernel
theorem dL_law_714 : decode cL_law 714 = .ok (.iconst 2, 1) := by decide +kernel
theorem dL_law_715 : decode cL_law 715 = .ok (.iadd, 1) := by decide +kernel
theorem dL_law_716 : decode cL_law 716 = .ok (.iaload, 1) := by decide +kernel
theorem dL_law_717 : decode cL_law 717 = .ok (.aload_n 0, 1) := by decide +kernel
theorem dL_law_718 : decode cL_law 718 = .ok (.iload_n 3, 1) := by decide +kernel
theorem dL_law_719 : decode cL_law 719 = .ok (.iconst 3, 1) := by decide +kernel
theorem dL_law_720 : decode cL_law 720 = .ok (.iadd, 1) := by decide +kernel
theorem dL_law_721 : decode cL_law 721 = .ok (.iaload, 1) := by decide +kernel
theorem dL_law_722 : decode cL_law 722 = .ok (.invokevirtual 86, 3) := by decide +kernel
theorem dL_law_725 : decode cL_law 725 = .ok (.lcmp, 1) := by decide +kernel
theorem dL_law_726 : decode cL_law 726 = .ok (.ifCond .eq 389, 3) := by decide +kernel
theorem dL_law_729 : decode cL_law 729 = .ok (.iconst 0, 1) := by decide +kernel
theorem dL_law_730 : decode cL_law 730 = .ok (.ireturn, 1) := by decide +kernel
theorem dL_law_731 : decode cL_law 731 = .ok (.aload_n 1, 1) := by decide +kernel
theorem dL_law_732 : decode cL_law 732 = .ok (.aload_n 0, 1) := by decide +kernel
theorem dL_law_733 : decode cL_law 733 = .ok (.iload_n 3, 1) := by decide +kernel
theorem dL_law_734 : decode cL_law 734 = .ok (.iconst 1, 1) := by decide +kernel
theorem dL_law_735 : decode cL_law 735 = .ok (.iadd, 1) := by decide +kernel
theorem dL_law_736 : decode cL_law 736 = .ok (.iaload, 1) := by decide +kernel
theorem dL_law_737 : decode cL_law 737 = .ok (.aload_n 0, 1) := by decide +kernel
theorem dL_law_738 : decode cL_law 738 = .ok (.iload_n 3, 1) := by decide +kernel
theorem dL_law_739 : decode cL_law 739 = .ok (.iconst 2, 1) := by decide +kernel
theorem dL_law_740 : decode cL_law 740 = .ok (.iadd, 1) := by decide +kernel
theorem dL_law_741 : decode cL_law 741 = .ok (.iaload, 1) := by decide +kernel
theorem dL_law_742 : decode cL_law 742 = .ok (.aload_n 0, 1) := by decide +kernel
theorem dL_law_743 : decode cL_law 743 = .ok (.iload_n 3, 1) := by decide +kernel
theorem dL_law_744 : decode cL_law 744 = .ok (.iconst 3, 1) := by decide +kernel
theorem dL_law_745 : decode cL_law 745 = .ok (.iadd, 1) := by decide +kernel
theorem dL_law_746 : decode cL_law 746 = .ok (.iaload, 1) := by decide +kernel
theorem dL_law_747 : decode cL_law 747 = .ok (.invokevirtual 87, 3) := by decide +kernel
theorem dL_law_750 : decode cL_law 750 = .ok (.aload_n 2, 1) := by decide +kernel
theorem dL_law_751 : decode cL_law 751 = .ok (.aload_n 0, 1) := by decide +kernel
theorem dL_law_752 : decode cL_law 752 = .ok (.iload_n 3, 1) := by decide +kernel
theorem dL_law_753 : decode cL_law 753 = .ok (.iconst 1, 1) := by decide +kernel
theorem dL_law_754 : decode cL_law 754 = .ok (.iadd, 1) := by decide +kernel
theorem dL_law_755 : decode cL_law 755 = .ok (.iaload, 1) := by decide +kernel
theorem dL_law_756 : decode cL_law 756 = .ok (.aload_n 0, 1) := by decide +kernel
theorem dL_law_757 : decode cL_law 757 = .ok (.iload_n 3, 1) := by decide +kernel
theorem dL_law_758 : decode cL_law 758 = .ok (.iconst 2, 1) := by decide +kernel
theorem dL_law_759 : decode cL_law 759 = .ok (.iadd, 1) := by decide +kernel
theorem dL_law_760 : decode cL_law 760 = .ok (.iaload, 1) := by decide +kernel
theorem dL_law_761 : decode cL_law 761 = .ok (.aload_n 0, 1) := by decide +kernel
theorem dL_law_762 : decode cL_law 762 = .ok (.iload_n 3, 1) := by decide +kernel
theorem dL_law_763 : decode cL_law 763 = .ok (.iconst 3, 1) := by decide +kernel
theorem dL_law_764 : decode cL_law 764 = .ok (.iadd, 1) := by decide +kernel
theorem dL_law_765 : decode cL_law 765 = .ok (.iaload, 1) := by decide +kernel
theorem dL_law_766 : decode cL_law 766 = .ok (.invokevirtual 90, 3) := by decide +kernel
theorem dL_law_769 : decode cL_law 769 = .ok (.lcmp, 1) := by decide +kernel
theorem dL_law_770 : decode cL_law 770 = .ok (.ifCond .eq 345, 3) := by decide +kernel
theorem dL_law_773 : decode cL_law 773 = .ok (.iconst 0, 1) := by decide +kernel
theorem dL_law_774 : decode cL_law 774 = .ok (.ireturn, 1) := by decide +kernel
theorem dL_law_775 : decode cL_law 775 = .ok (.aload_n 1, 1) := by decide +kernel
theorem dL_law_776 : decode cL_law 776 = .ok (.aload_n 0, 1) := by decide +kernel
theorem dL_law_777 : decode cL_law 777 = .ok (.iload_n 3, 1) := by decide +kernel
theorem dL_law_778 : decode cL_law 778 = .ok (.iconst 1, 1) := by decide +kernel
theorem dL_law_779 : decode cL_law 779 = .ok (.iadd, 1) := by decide +kernel
theorem dL_law_780 : decode cL_law 780 = .ok (.iaload, 1) := by decide +kernel
theorem dL_law_781 : decode cL_law 781 = .ok (.aload_n 0, 1) := by decide +kernel
theorem dL_law_782 : decode cL_law 782 = .ok (.iload_n 3, 1) := by decide +kernel
theorem dL_law_783 : decode cL_law 783 = .ok (.iconst 2, 1) := by decide +kernel
theorem dL_law_784 : decode cL_law 784 = .ok (.iadd, 1) := by decide +kernel
theorem dL_law_785 : decode cL_law 785 = .ok (.iaload, 1) := by decide +kernel
theorem dL_law_786 : decode cL_law 786 = .ok (.invokevirtual 91, 3) := by decide +kernel
theorem dL_law_789 : decode cL_law 789 = .ok (.aload_n 2, 1) := by decide +kernel
theorem dL_law_790 : decode cL_law 790 = .ok (.aload_n 0, 1) := by decide +kernel
theorem dL_law_791 : decode cL_law 791 = .ok (.iload_n 3, 1) := by decide +kernel
theorem dL_law_792 : decode cL_law 792 = .ok (.iconst 1, 1) := by decide +kernel
theorem dL_law_793 : decode cL_law 793 = .ok (.iadd, 1) := by decide +kernel
theorem dL_law_794 : decode cL_law 794 = .ok (.iaload, 1) := by decide +kernel
theorem dL_law_795 : decode cL_law 795 = .ok (.aload_n 0, 1) := by decide +kernel
theorem dL_law_796 : decode cL_law 796 = .ok (.iload_n 3, 1) := by decide +kernel
theorem dL_law_797 : decode cL_law 797 = .ok (.iconst 2, 1) := by decide +kernel
theorem dL_law_798 : decode cL_law 798 = .ok (.iadd, 1) := by decide +kernel
theorem dL_law_799 : decode cL_law 799 = .ok (.iaload, 1) := by decide +kernel
theorem dL_law_800 : decode cL_law 800 = .ok (.invokevirtual 95, 3) := by decide +kernel
theorem dL_law_803 : decode cL_law 803 = .ok (.lcmp, 1) := by decide +kernel
theorem dL_law_804 : decode cL_law 804 = .ok (.ifCond .eq 311, 3) := by decide +kernel
theorem dL_law_807 : decode cL_law 807 = .ok (.iconst 0, 1) := by decide +kernel
theorem dL_law_808 : decode cL_law 808 = .ok (.ireturn, 1) := by decide +kernel
theorem dL_law_809 : decode cL_law 809 = .ok (.aload_n 1, 1) := by decide +kernel
theorem dL_law_810 : decode cL_law 810 = .ok (.aload_n 0, 1) := by decide +kernel
theorem dL_law_811 : decode cL_law 811 = .ok (.iload_n 3, 1) := by decide +kernel
theorem dL_law_812 : decode cL_law 812 = .ok (.iconst 1, 1) := by decide +kernel
theorem dL_law_813 : decode cL_law 813 = .ok (.iadd, 1) := by decide +kernel
theorem dL_law_814 : decode cL_law 814 = .ok (.iaload, 1) := by decide +kernel
theorem dL_law_815 : decode cL_law 815 = .ok (.aload_n 0, 1) := by decide +kernel
theorem dL_law_816 : decode cL_law 816 = .ok (.iload_n 3, 1) := by decide +kernel
theorem dL_law_817 : decode cL_law 817 = .ok (.iconst 2, 1) := by decide +kernel
theorem dL_law_818 : decode cL_law 818 = .ok (.iadd, 1) := by decide +kernel
theorem dL_law_819 : decode cL_law 819 = .ok (.iaload, 1) := by decide +kernel
theorem dL_law_820 : decode cL_law 820 = .ok (.aload_n 0, 1) := by decide +kernel
theorem dL_law_821 : decode cL_law 821 = .ok (.iload_n 3, 1) := by decide +kernel
theorem dL_law_822 : decode cL_law 822 = .ok (.iconst 3, 1) := by decide +kernel
theorem dL_law_823 : decode cL_law 823 = .ok (.iadd, 1) := by decide +kernel
theorem dL_law_824 : decode cL_law 824 = .ok (.iaload, 1) := by decide +kernel
theorem dL_law_825 : decode cL_law 825 = .ok (.invokevirtual 96, 3) := by decide +kernel
theorem dL_law_828 : decode cL_law 828 = .ok (.aload_n 2, 1) := by decide +kernel
theorem dL_law_829 : decode cL_law 829 = .ok (.aload_n 0, 1) := by decide +kernel
theorem dL_law_830 : decode cL_law 830 = .ok (.iload_n 3, 1) := by decide +kernel
theorem dL_law_831 : decode cL_law 831 = .ok (.iconst 1, 1) := by decide +kernel
theorem dL_law_832 : decode cL_law 832 = .ok (.iadd, 1) := by decide +kernel
theorem dL_law_833 : decode cL_law 833 = .ok (.iaload, 1) := by decide +kernel
theorem dL_law_834 : decode cL_law 834 = .ok (.aload_n 0, 1) := by decide +kernel
theorem dL_law_835 : decode cL_law 835 = .ok (.iload_n 3, 1) := by decide +kernel
theorem dL_law_836 : decode cL_law 836 = .ok (.iconst 2, 1) := by decide +kernel
theorem dL_law_837 : decode cL_law 837 = .ok (.iadd, 1) := by decide +kernel
theorem dL_law_838 : decode cL_law 838 = .ok (.iaload, 1) := by decide +kernel
theorem dL_law_839 : decode cL_law 839 = .ok (.aload_n 0, 1) := by decide +kernel
theorem dL_law_840 : decode cL_law 840 = .ok (.iload_n 3, 1) := by decide +kernel
theorem dL_law_841 : decode cL_law 841 = .ok (.iconst 3, 1) := by decide +kernel
theorem dL_law_842 : decode cL_law 842 = .ok (.iadd, 1) := by decide +kernel
theorem dL_law_843 : decode cL_law 843 = .ok (.iaload, 1) := by decide +kernel
theorem dL_law_844 : decode cL_law 844 = .ok (.invokevirtual 99, 3) := by decide +kernel
theorem dL_law_847 : decode cL_law 847 = .ok (.lcmp, 1) := by decide +kernel
theorem dL_law_848 : decode cL_law 848 = .ok (.ifCond .eq 267, 3) := by decide +kernel
theorem dL_law_851 : decode cL_law 851 = .ok (.iconst 0, 1) := by decide +kernel
theorem dL_law_852 : decode cL_law 852 = .ok (.ireturn, 1) := by decide +kernel
theorem dL_law_853 : decode cL_law 853 = .ok (.aload_n 1, 1) := by decide +kernel
theorem dL_law_854 : decode cL_law 854 = .ok (.aload_n 0, 1) := by decide +kernel
theorem dL_law_855 : decode cL_law 855 = .ok (.iload_n 3, 1) := by decide +kernel
theorem dL_law_856 : decode cL_law 856 = .ok (.iconst 1, 1) := by decide +kernel
theorem dL_law_857 : decode cL_law 857 = .ok (.iadd, 1) := by decide +kernel
theorem dL_law_858 : decode cL_law 858 = .ok (.iaload, 1) := by decide +kernel
theorem dL_law_859 : decode cL_law 859 = .ok (.aload_n 0, 1) := by decide +kernel
theorem dL_law_860 : decode cL_law 860 = .ok (.iload_n 3, 1) := by decide +kernel
theorem dL_law_861 : decode cL_law 861 = .ok (.iconst 2, 1) := by decide +kernel
theorem dL_law_862 : decode cL_law 862 = .ok (.iadd, 1) := by decide +kernel
theorem dL_law_863 : decode cL_law 863 = .ok (.iaload, 1) := by decide +kernel
theorem dL_law_864 : decode cL_law 864 = .ok (.aload_n 0, 1) := by decide +kernel
theorem dL_law_865 : decode cL_law 865 = .ok (.iload_n 3, 1) := by decide +kernel
theorem dL_law_866 : decode cL_law 866 = .ok (.iconst 3, 1) := by decide +kernel
theorem dL_law_867 : decode cL_law 867 = .ok (.iadd, 1) := by decide +kernel
theorem dL_law_868 : decode cL_law 868 = .ok (.iaload, 1) := by decide +kernel
theorem dL_law_869 : decode cL_law 869 = .ok (.invokevirtual 100, 3) := by decide +kernel
theorem dL_law_872 : decode cL_law 872 = .ok (.aload_n 2, 1) := by decide +kernel
theorem dL_law_873 : decode cL_law 873 = .ok (.aload_n 0, 1) := by decide +kernel
theorem dL_law_874 : decode cL_law 874 = .ok (.iload_n 3, 1) := by decide +kernel
theorem dL_law_875 : decode cL_law 875 = .ok (.iconst 1, 1) := by decide +kernel
theorem dL_law_876 : decode cL_law 876 = .ok (.iadd, 1) := by decide +kernel
theorem dL_law_877 : decode cL_law 877 = .ok (.iaload, 1) := by decide +kernel
theorem dL_law_878 : decode cL_law 878 = .ok (.aload_n 0, 1) := by decide +kernel
theorem dL_law_879 : decode cL_law 879 = .ok (.iload_n 3, 1) := by decide +kernel
theorem dL_law_880 : decode cL_law 880 = .ok (.iconst 2, 1) := by decide +kernel
theorem dL_law_881 : decode cL_law 881 = .ok (.iadd, 1) := by decide +kernel
theorem dL_law_882 : decode cL_law 882 = .ok (.iaload, 1) := by decide +kernel
theorem dL_law_883 : decode cL_law 883 = .ok (.aload_n 0, 1) := by decide +kernel
theorem dL_law_884 : decode cL_law 884 = .ok (.iload_n 3, 1) := by decide +kernel
theorem dL_law_885 : decode cL_law 885 = .ok (.iconst 3, 1) := by decide +kernel
theorem dL_law_886 : decode cL_law 886 = .ok (.iadd, 1) := by decide +kernel
theorem dL_law_887 : decode cL_law 887 = .ok (.iaload, 1) := by decide +kernel
theorem dL_law_888 : decode cL_law 888 = .ok (.invokevirtual 103, 3) := by decide +kernel
theorem dL_law_891 : decode cL_law 891 = .ok (.lcmp, 1) := by decide +kernel
theorem dL_law_892 : decode cL_law 892 = .ok (.ifCond .eq 223, 3) := by decide +kernel
theorem dL_law_895 : decode cL_law 895 = .ok (.iconst 0, 1) := by decide +kernel
theorem dL_law_896 : decode cL_law 896 = .ok (.ireturn, 1) := by decide +kernel
theorem dL_law_897 : decode cL_law 897 = .ok (.aload_n 1, 1) := by decide +kernel
theorem dL_law_898 : decode cL_law 898 = .ok (.aload_n 0, 1) := by decide +kernel
theorem dL_law_899 : decode cL_law 899 = .ok (.iload_n 3, 1) := by decide +kernel
theorem dL_law_900 : decode cL_law 900 = .ok (.iconst 1, 1) := by decide +kernel
theorem dL_law_901 : decode cL_law 901 = .ok (.iadd, 1) := by decide +kernel
theorem dL_law_902 : decode cL_law 902 = .ok (.iaload, 1) := by decide +kernel
theorem dL_law_903 : decode cL_law 903 = .ok (.aload_n 0, 1) := by decide +kernel
theorem dL_law_904 : decode cL_law 904 = .ok (.iload_n 3, 1) := by decide +kernel
theorem dL_law_905 : decode cL_law 905 = .ok (.iconst 2, 1) := by decide +kernel
theorem dL_law_906 : decode cL_law 906 = .ok (.iadd, 1) := by decide +kernel
theorem dL_law_907 : decode cL_law 907 = .ok (.iaload, 1) := by decide +kernel
theorem dL_law_908 : decode cL_law 908 = .ok (.invokevirtual 104, 3) := by decide +kernel
theorem dL_law_911 : decode cL_law 911 = .ok (.aload_n 2, 1) := by decide +kernel
theorem dL_law_912 : decode cL_law 912 = .ok (.aload_n 0, 1) := by decide +kernel
theorem dL_law_913 : decode cL_law 913 = .ok (.iload_n 3, 1) := by decide +kernel
theorem dL_law_914 : decode cL_law 914 = .ok (.iconst 1, 1) := by decide +kernel
theorem dL_law_915 : decode cL_law 915 = .ok (.iadd, 1) := by decide +kernel
theorem dL_law_916 : decode cL_law 916 = .ok (.iaload, 1) := by decide +kernel
theorem dL_law_917 : decode cL_law 917 = .ok (.aload_n 0, 1) := by decide +kernel
theorem dL_law_918 : decode cL_law 918 = .ok (.iload_n 3, 1) := by decide +kernel
theorem dL_law_919 : decode cL_law 919 = .ok (.iconst 2, 1) := by decide +kernel
theorem dL_law_920 : decode cL_law 920 = .ok (.iadd, 1) := by decide +kernel
theorem dL_law_921 : decode cL_law 921 = .ok (.iaload, 1) := by decide +kernel
theorem dL_law_922 : decode cL_law 922 = .ok (.invokevirtual 107, 3) := by decide +kernel
theorem dL_law_925 : decode cL_law 925 = .ok (.if_icmp .eq 190, 3) := by decide +kernel
theorem dL_law_928 : decode cL_law 928 = .ok (.iconst 0, 1) := by decide +kernel
theorem dL_law_929 : decode cL_law 929 = .ok (.ireturn, 1) := by decide +kernel
theorem dL_law_930 : decode cL_law 930 = .ok (.aload_n 1, 1) := by decide +kernel
theorem dL_law_931 : decode cL_law 931 = .ok (.aload_n 0, 1) := by decide +kernel
theorem dL_law_932 : decode cL_law 932 = .ok (.iload_n 3, 1) := by decide +kernel
theorem dL_law_933 : decode cL_law 933 = .ok (.iconst 1, 1) := by decide +kernel
theorem dL_law_934 : decode cL_law 934 = .ok (.iadd, 1) := by decide +kernel
theorem dL_law_935 : decode cL_law 935 = .ok (.iaload, 1) := by decide +kernel
theorem dL_law_936 : decode cL_law 936 = .ok (.aload_n 0, 1) := by decide +kernel
theorem dL_law_937 : decode cL_law 937 = .ok (.iload_n 3, 1) := by decide +kernel
theorem dL_law_938 : decode cL_law 938 = .ok (.iconst 2, 1) := by decide +kernel
theorem dL_law_939 : decode cL_law 939 = .ok (.iadd, 1) := by decide +kernel
theorem dL_law_940 : decode cL_law 940 = .ok (.iaload, 1) := by decide +kernel
theorem dL_law_941 : decode cL_law 941 = .ok (.aload_n 0, 1) := by decide +kernel
theorem dL_law_942 : decode cL_law 942 = .ok (.iload_n 3, 1) := by decide +kernel
theorem dL_law_943 : decode cL_law 943 = .ok (.iconst 3, 1) := by decide +kernel
theorem dL_law_944 : decode cL_law 944 = .ok (.iadd, 1) := by decide +kernel
theorem dL_law_945 : decode cL_law 945 = .ok (.iaload, 1) := by decide +kernel
theorem dL_law_946 : decode cL_law 946 = .ok (.aload_n 0, 1) := by decide +kernel
theorem dL_law_947 : decode cL_law 947 = .ok (.iload_n 3, 1) := by decide +kernel
theorem dL_law_948 : decode cL_law 948 = .ok (.iconst 4, 1) := by decide +kernel
theorem dL_law_949 : decode cL_law 949 = .ok (.iadd, 1) := by decide +kernel
theorem dL_law_950 : decode cL_law 950 = .ok (.iaload, 1) := by decide +kernel
theorem dL_law_951 : decode cL_law 951 = .ok (.invokevirtual 108, 3) := by decide +kernel
theorem dL_law_954 : decode cL_law 954 = .ok (.aload_n 2, 1) := by decide +kernel
theorem dL_law_955 : decode cL_law 955 = .ok (.aload_n 0, 1) := by decide +kernel
theorem dL_law_956 : decode cL_law 956 = .ok (.iload_n 3, 1) := by decide +kernel
theorem dL_law_957 : decode cL_law 957 = .ok (.iconst 1, 1) := by decide +kernel
theorem dL_law_958 : decode cL_law 958 = .ok (.iadd, 1) := by decide +kernel
theorem dL_law_959 : decode cL_law 959 = .ok (.iaload, 1) := by decide +kernel
theorem dL_law_960 : decode cL_law 960 = .ok (.aload_n 0, 1) := by decide +kernel
theorem dL_law_961 : decode cL_law 961 = .ok (.iload_n 3, 1) := by decide +kernel
theorem dL_law_962 : decode cL_law 962 = .ok (.iconst 2, 1) := by decide +kernel
theorem dL_law_963 : decode cL_law 963 = .ok (.iadd, 1) := by decide +kernel
theorem dL_law_964 : decode cL_law 964 = .ok (.iaload, 1) := by decide +kernel
theorem dL_law_965 : decode cL_law 965 = .ok (.aload_n 0, 1) := by decide +kernel
theorem dL_law_966 : decode cL_law 966 = .ok (.iload_n 3, 1) := by decide +kernel
theorem dL_law_967 : decode cL_law 967 = .ok (.iconst 3, 1) := by decide +kernel
theorem dL_law_968 : decode cL_law 968 = .ok (.iadd, 1) := by decide +kernel
theorem dL_law_969 : decode cL_law 969 = .ok (.iaload, 1) := by decide +kernel
theorem dL_law_970 : decode cL_law 970 = .ok (.aload_n 0, 1) := by decide +kernel
theorem dL_law_971 : decode cL_law 971 = .ok (.iload_n 3, 1) := by decide +kernel
theorem dL_law_972 : decode cL_law 972 = .ok (.iconst 4, 1) := by decide +kernel
theorem dL_law_973 : decode cL_law 973 = .ok (.iadd, 1) := by decide +kernel
theorem dL_law_974 : decode cL_law 974 = .ok (.iaload, 1) := by decide +kernel
theorem dL_law_975 : decode cL_law 975 = .ok (.invokevirtual 112, 3) := by decide +kernel
theorem dL_law_978 : decode cL_law 978 = .ok (.lcmp, 1) := by decide +kernel
theorem dL_law_979 : decode cL_law 979 = .ok (.ifCond .eq 136, 3) := by decide +kernel
theorem dL_law_982 : decode cL_law 982 = .ok (.iconst 0, 1) := by decide +kernel
theorem dL_law_983 : decode cL_law 983 = .ok (.ireturn, 1) := by decide +kernel
theorem dL_law_984 : decode cL_law 984 = .ok (.aload_n 1, 1) := by decide +kernel
theorem dL_law_985 : decode cL_law 985 = .ok (.aload_n 0, 1) := by decide +kernel
theorem dL_law_986 : decode cL_law 986 = .ok (.iload_n 3, 1) := by decide +kernel
theorem dL_law_987 : decode cL_law 987 = .ok (.iconst 1, 1) := by decide +kernel
theorem dL_law_988 : decode cL_law 988 = .ok (.iadd, 1) := by decide +kernel
theorem dL_law_989 : decode cL_law 989 = .ok (.iaload, 1) := by decide +kernel
theorem dL_law_990 : decode cL_law 990 = .ok (.invokevirtual 113, 3) := by decide +kernel
theorem dL_law_993 : decode cL_law 993 = .ok (.aload_n 2, 1) := by decide +kernel
theorem dL_law_994 : decode cL_law 994 = .ok (.aload_n 0, 1) := by decide +kernel
theorem dL_law_995 : decode cL_law 995 = .ok (.iload_n 3, 1) := by decide +kernel
theorem dL_law_996 : decode cL_law 996 = .ok (.iconst 1, 1) := by decide +kernel
theorem dL_law_997 : decode cL_law 997 = .ok (.iadd, 1) := by decide +kernel
theorem dL_law_998 : decode cL_law 998 = .ok (.iaload, 1) := by decide +kernel
theorem dL_law_999 : decode cL_law 999 = .ok (.invokevirtual 116, 3) := by decide +kernel
theorem dL_law_1002 : decode cL_law 1002 = .ok (.if_icmp .eq 113, 3) := by decide +kernel
theorem dL_law_1005 : decode cL_law 1005 = .ok (.iconst 0, 1) := by decide +kernel
theorem dL_law_1006 : decode cL_law 1006 = .ok (.ireturn, 1) := by decide +kernel
theorem dL_law_1007 : decode cL_law 1007 = .ok (.aload_n 1, 1) := by decide +kernel
theorem dL_law_1008 : decode cL_law 1008 = .ok (.invokevirtual 117, 3) := by decide +kernel
theorem dL_law_1011 : decode cL_law 1011 = .ok (.aload_n 2, 1) := by decide +kernel
theorem dL_law_1012 : decode cL_law 1012 = .ok (.invokevirtual 120, 3) := by decide +kernel
theorem dL_law_1015 : decode cL_law 1015 = .ok (.if_icmp .eq 100, 3) := by decide +kernel
theorem dL_law_1018 : decode cL_law 1018 = .ok (.iconst 0, 1) := by decide +kernel
theorem dL_law_1019 : decode cL_law 1019 = .ok (.ireturn, 1) := by decide +kernel
theorem dL_law_1020 : decode cL_law 1020 = .ok (.aload_n 1, 1) := by decide +kernel
theorem dL_law_1021 : decode cL_law 1021 = .ok (.invokevirtual 121, 3) := by decide +kernel
theorem dL_law_1024 : decode cL_law 1024 = .ok (.aload_n 2, 1) := by decide +kernel
theorem dL_law_1025 : decode cL_law 1025 = .ok (.invokevirtual 124, 3) := by decide +kernel
theorem dL_law_1028 : decode cL_law 1028 = .ok (.if_icmp .eq 87, 3) := by decide +kernel
theorem dL_law_1031 : decode cL_law 1031 = .ok (.iconst 0, 1) := by decide +kernel
theorem dL_law_1032 : decode cL_law 1032 = .ok (.ireturn, 1) := by decide +kernel
theorem dL_law_1033 : decode cL_law 1033 = .ok (.aload_n 1, 1) := by decide +kernel
theorem dL_law_1034 : decode cL_law 1034 = .ok (.aload_n 0, 1) := by decide +kernel
theorem dL_law_1035 : decode cL_law 1035 = .ok (.iload_n 3, 1) := by decide +kernel
theorem dL_law_1036 : decode cL_law 1036 = .ok (.iconst 1, 1) := by decide +kernel
theorem dL_law_1037 : decode cL_law 1037 = .ok (.iadd, 1) := by decide +kernel
theorem dL_law_1038 : decode cL_law 1038 = .ok (.iaload, 1) := by decide +kernel
theorem dL_law_1039 : decode cL_law 1039 = .ok (.aload_n 0, 1) := by decide +kernel
theorem dL_law_1040 : decode cL_law 1040 = .ok (.iload_n 3, 1) := by decide +kernel
theorem dL_law_1041 : decode cL_law 1041 = .ok (.iconst 2, 1) := by decide +kernel
theorem dL_law_1042 : decode cL_law 1042 = .ok (.iadd, 1) := by decide +kernel
theorem dL_law_1043 : decode cL_law 1043 = .ok (.iaload, 1) := by decide +kernel
theorem dL_law_1044 : decode cL_law 1044 = .ok (.invokevirtual 125, 3) := by decide +kernel
theorem dL_law_1047 : decode cL_law 1047 = .ok (.aload_n 2, 1) := by decide +kernel
theorem dL_law_1048 : decode cL_law 1048 = .ok (.aload_n 0, 1) := by decide +kernel
theorem dL_law_1049 : decode cL_law 1049 = .ok (.iload_n 3, 1) := by decide +kernel
theorem dL_law_1050 : decode cL_law 1050 = .ok (.iconst 1, 1) := by decide +kernel
theorem dL_law_1051 : decode cL_law 1051 = .ok (.iadd, 1) := by decide +kernel
theorem dL_law_1052 : decode cL_law 1052 = .ok (.iaload, 1) := by decide +kernel
theorem dL_law_1053 : decode cL_law 1053 = .ok (.aload_n 0, 1) := by decide +kernel
theorem dL_law_1054 : decode cL_law 1054 = .ok (.iload_n 3, 1) := by decide +kernel
theorem dL_law_1055 : decode cL_law 1055 = .ok (.iconst 2, 1) := by decide +kernel
theorem dL_law_1056 : decode cL_law 1056 = .ok (.iadd, 1) := by decide +kernel
theorem dL_law_1057 : decode cL_law 1057 = .ok (.iaload, 1) := by decide +kernel
theorem dL_law_1058 : decode cL_law 1058 = .ok (.invokevirtual 128, 3) := by decide +kernel
theorem dL_law_1061 : decode cL_law 1061 = .ok (.if_icmp .eq 54, 3) := by decide +kernel
theorem dL_law_1064 : decode cL_law 1064 = .ok (.iconst 0, 1) := by decide +kernel
theorem dL_law_1065 : decode cL_law 1065 = .ok (.ireturn, 1) := by decide +kernel
theorem dL_law_1066 : decode cL_law 1066 = .ok (.aload_n 1, 1) := by decide +kernel
theorem dL_law_1067 : decode cL_law 1067 = .ok (.invokevirtual 129, 3) := by decide +kernel
theorem dL_law_1070 : decode cL_law 1070 = .ok (.aload_n 2, 1) := by decide +kernel
theorem dL_law_1071 : decode cL_law 1071 = .ok (.invokevirtual 132, 3) := by decide +kernel
theorem dL_law_1074 : decode cL_law 1074 = .ok (.if_icmp .eq 41, 3) := by decide +kernel
theorem dL_law_1077 : decode cL_law 1077 = .ok (.iconst 0, 1) := by decide +kernel
theorem dL_law_1078 : decode cL_law 1078 = .ok (.ireturn, 1) := by decide +kernel
theorem dL_law_1079 : decode cL_law 1079 = .ok (.aload_n 1, 1) := by decide +kernel
theorem dL_law_1080 : decode cL_law 1080 = .ok (.invokevirtual 133, 3) := by decide +kernel
theorem dL_law_1083 : decode cL_law 1083 = .ok (.aload_n 2, 1) := by decide +kernel
theorem dL_law_1084 : decode cL_law 1084 = .ok (.invokevirtual 136, 3) := by decide +kernel
theorem dL_law_1087 : decode cL_law 1087 = .ok (.if_icmp .eq 28, 3) := by decide +kernel
theorem dL_law_1090 : decode cL_law 1090 = .ok (.iconst 0, 1) := by decide +kernel
theorem dL_law_1091 : decode cL_law 1091 = .ok (.ireturn, 1) := by decide +kernel
theorem dL_law_1092 : decode cL_law 1092 = .ok (.aload_n 1, 1) := by decide +kernel
theorem dL_law_1093 : decode cL_law 1093 = .ok (.aload_n 0, 1) := by decide +kernel
theorem dL_law_1094 : decode cL_law 1094 = .ok (.iload_n 3, 1) := by decide +kernel
theorem dL_law_1095 : decode cL_law 1095 = .ok (.iconst 1, 1) := by decide +kernel
theorem dL_law_1096 : decode cL_law 1096 = .ok (.iadd, 1) := by decide +kernel
theorem dL_law_1097 : decode cL_law 1097 = .ok (.iaload, 1) := by decide +kernel
theorem dL_law_1098 : decode cL_law 1098 = .ok (.invokevirtual 137, 3) := by decide +kernel
theorem dL_law_1101 : decode cL_law 1101 = .ok (.aload_n 2, 1) := by decide +kernel
theorem dL_law_1102 : decode cL_law 1102 = .ok (.aload_n 0, 1) := by decide +kernel
theorem dL_law_1103 : decode cL_law 1103 = .ok (.iload_n 3, 1) := by decide +kernel
theorem dL_law_1104 : decode cL_law 1104 = .ok (.iconst 1, 1) := by decide +kernel
theorem dL_law_1105 : decode cL_law 1105 = .ok (.iadd, 1) := by decide +kernel
theorem dL_law_1106 : decode cL_law 1106 = .ok (.iaload, 1) := by decide +kernel
theorem dL_law_1107 : decode cL_law 1107 = .ok (.invokevirtual 140, 3) := by decide +kernel
theorem dL_law_1110 : decode cL_law 1110 = .ok (.if_icmp .eq 5, 3) := by decide +kernel
theorem dL_law_1113 : decode cL_law 1113 = .ok (.iconst 0, 1) := by decide +kernel
theorem dL_law_1114 : decode cL_law 1114 = .ok (.ireturn, 1) := by decide +kernel
theorem dL_law_1115 : decode cL_law 1115 = .ok (.iinc 3 6, 3) := by decide +kernel
theorem dL_law_1118 : decode cL_law 1118 = .ok (.goto (-1100), 3) := by decide +kernel
theorem dL_law_1121 : decode cL_law 1121 = .ok (.iconst 1, 1) := by decide +kernel
theorem dL_law_1122 : decode cL_law 1122 = .ok (.ireturn, 1) := by decide +kernel
end
section
/-! my kit: worlds in one bundle, contracts in one form -/
def KK (D : va_G) (cI cJ cZ : ClassId) (U : State) : Prop := va_K D vwCl [(cI, FieldType.int), (cJ, FieldType.long), (cZ, FieldType.boolean)] U
def SS (D : va_G) (A : Nat → Prop) (s : State) (ws : va_W) (H : Heap) (locs : List Loc) : Prop := va_P D vwCl ws H ∧ va_D A ws ∧ va_S A s.heap H locs
def fMS : Nat → Int32 := fun j => ([0, 31, 60, 91, 121, 152, 182, 213, 244, 274, 305, 335, 366] : List Int32).getD j 0
def fGL : Nat → Int32 := fun j => ([99, 999, 100, 999, 99] : List Int32).getD j 0
def fFL : Nat → Int32 := fun j => ([10, 150, 5, 80, 0] : List Int32).getD j 0
def fV (f : Nat → Int32) : Nat → Value := fun j => .int (f j)
/-- a static table of the class: its reference, its contents, its cell -/
def GT (n : String) (N : Nat) (f : Nat → Int32) (A : Nat → Prop) (U : State) : Prop := ∃ (t : Nat) (cell : Cell), va_Z "GlassJar" n "[I" (.ref t) A U U.heap ∧ va_T .int t N (fV f) A U U.heap ∧ U.heap[t]? = some cell ∧ cell.slots.size = N ∧ cell.vm.isStatics = false ∧ cell.vm ≠ .unknown ∧ U.vm.findClass "[I" = some cell.cls
/-- what is known of the start everywhere: the words of nest mates, the three tables -/
def GX (A : Nat → Prop) (U : State) : Prop := (∀ w ∈ nestW, va_Nw w U) ∧ GT "MONTH_STARTS" 13 fMS A U ∧ GT "GREATEST_LAWS" 5 fGL A U ∧ GT "FIRST_LAWS" 5 fFL A U
theorem GT.go {n : String} {N : Nat} {f : Nat → Int32} {A B : Nat → Prop} {s U : State} {H : Heap} (h : GT n N f A s) (hvm : s.vm.Alike U.vm) (hU : U.heap = H) (hk : ∀ a : Nat, a < s.heap.size → ¬ A a → H[a]? = s.heap[a]?) (hAB : ∀ q, B q → A q) : GT n N f B U := by
  obtain ⟨t, cell, h1, h2, h3, h4, h5, h6, h7⟩ := h
  subst hU
  refine ⟨t, cell, ((h1.moved hvm).kept hk).narrow hAB, ((h2.moved hvm).kept hk).narrow hAB, ?_, h4, h5, h6, ?_⟩
  · rw [hk t (Array.getElem?_eq_some_iff.mp h3).1 h2.out]
    exact h3
  · rw [hvm.findClass]
    exact h7
theorem nest_warm {w : Cond} {s U : State} (hn : isNestW w = true) (hW : s.WarmedH U.vm) (h : va_Nw w s) : va_Nw w U := by
  unfold isNestW at hn
  split at hn
  · exact va_Nw.warmF hW h
  · exact va_Nw.warmM hW h
  · cases hn
theorem nest_same {w : Cond} {s U : State} (hn : isNestW w = true) (hW : s.vm = U.vm) (h : va_Nw w s) : va_Nw w U := by
  unfold isNestW at hn
  split at hn
  · exact va_Nw.same rfl hW h
  · exact va_Nw.same rfl hW h
  · cases hn
theorem GX.go {A B : Nat → Prop} {s U : State} {H : Heap} (h : GX A s) (hW : s.WarmedH U.vm) (hU : U.heap = H) (hk : ∀ a : Nat, a < s.heap.size → ¬ A a → H[a]? = s.heap[a]?) (hAB : ∀ q, B q → A q) : GX B U :=
  ⟨fun w hw => nest_warm (List.mem_filter.mp hw).2 hW (h.1 w hw), h.2.1.go hW.alike hU hk hAB, h.2.2.1.go hW.alike hU hk hAB, h.2.2.2.go hW.alike hU hk hAB⟩
theorem GX.same {A : Nat → Prop} {s U : State} (h : GX A s) (hvm : s.vm = U.vm) (hh : U.heap = s.heap) : GX A U :=
  ⟨fun w hw => nest_same (List.mem_filter.mp hw).2 hvm (h.1 w hw), h.2.1.go (by rw [← hvm]; exact Vm.Alike.refl s.vm) hh (fun _ _ _ => rfl) (fun _ z => z), h.2.2.1.go (by rw [← hvm]; exact Vm.Alike.refl s.vm) hh (fun _ _ _ => rfl) (fun _ z => z), h.2.2.2.go (by rw [← hvm]; exact Vm.Alike.refl s.vm) hh (fun _ _ _ => rfl) (fun _ z => z)⟩
def EV (p : Program) (m : MethodId) (c : Code) (cc : ByteArray) (nL : Nat) (s : State) (args : Array Value) (own : String) (D : va_G) (cI cJ cZ : ClassId) (A : Nat → Prop) : Prop := CallFix p m c cc nL s args gtbl own ∧ KK D cI cJ cZ s ∧ GX A s ∧ ∀ q : Nat, s.heap.size ≤ q → A q
def rmN (k mc ms : Nat) : Room := { frames := k, cells := mc, slots := ms, locals := 40 * k }
def wU (y : MethodName) (cc : ByteArray) (maxL : Nat) (ret : Option FieldType) : List Cond := Cond.code y cc maxL ret :: gtbl
def PcU (D : va_G) (cI cJ cZ : ClassId) (wc : va_W) (sz : Nat) (U : State) : Prop := U.heap.size = sz ∧ va_P D vwCl wc U.heap ∧ KK D cI cJ cZ U ∧ va_D (fun _ => True) wc ∧ GX (va_A wc sz) U
theorem PcU.blind {D : va_G} {cI cJ cZ : ClassId} {wc : va_W} {sz : Nat} {av : List Value} : FrameBlind (va_Pc av (PcU D cI cJ cZ wc sz)) := fun a U g mk q =>
  ⟨q.1, q.2.1, q.2.2.1, va_K.moved (u := U) (U := U.calling g mk a) (Vm.Alike.refl U.vm) q.2.2.2.1, q.2.2.2.2.1, GX.same (s := U) (U := U.calling g mk a) q.2.2.2.2.2 rfl rfl⟩
/-- the world behind a call -/
def Bd {S : Type} (D : va_G) (A : Nat → Prop) (w1 : S → va_W) : S → State → Prop := fun u t => va_P D vwCl (w1 u) t.heap ∧ va_D A (w1 u)
def CtI {S : Type} (l : Launch) (D : va_G) (cI cJ cZ : ClassId) (y : MethodName) (cc : ByteArray) (maxL : Nat) (ret : Option FieldType) (k : Nat) (Av : List Value) (wc : va_W) (res : S → Int32) (F : S → Prop) (w1 : S → va_W) : Prop :=
  ∀ sz : Nat, Met l y (wU y cc maxL ret) (rmN k 0 0) (va_Pc Av (PcU D cI cJ cZ wc sz)) (va_Qi (fun r u => r = res u ∧ F u) (Bd D (va_A wc sz) w1) (va_A wc sz)) 0 0 (va_A wc sz)
def CtL {S : Type} (l : Launch) (D : va_G) (cI cJ cZ : ClassId) (y : MethodName) (cc : ByteArray) (maxL : Nat) (ret : Option FieldType) (k : Nat) (Av : List Value) (wc : va_W) (res : S → Int64) (F : S → Prop) (w1 : S → va_W) : Prop :=
  ∀ sz : Nat, Met l y (wU y cc maxL ret) (rmN k 0 0) (va_Pc Av (PcU D cI cJ cZ wc sz)) (va_Ql (fun r u => r = res u ∧ F u) (Bd D (va_A wc sz) w1) (va_A wc sz)) 0 0 (va_A wc sz)
def CtV {S : Type} (l : Launch) (D : va_G) (cI cJ cZ : ClassId) (y : MethodName) (cc : ByteArray) (maxL : Nat) (ret : Option FieldType) (k mc ms : Nat) (Av : List Value) (wc : va_W) (F : S → Prop) (w1 : S → va_W) : Prop :=
  ∀ sz : Nat, Met l y (wU y cc maxL ret) (rmN k mc ms) (va_Pc Av (PcU D cI cJ cZ wc sz)) (va_Qv F (Bd D (va_A wc sz) w1) (va_A wc sz)) mc ms (va_A wc sz)
def CtR {S : Type} (l : Launch) (D : va_G) (cI cJ cZ : ClassId) (y : MethodName) (cc : ByteArray) (maxL : Nat) (ret : Option FieldType) (k : Nat) (Av : List Value) (wc : va_W) (res : S → Nat) (F : S → Prop) (w1 : S → va_W) : Prop :=
  ∀ sz : Nat, Met l y (wU y cc maxL ret) (rmN k 0 0) (va_Pc Av (PcU D cI cJ cZ wc sz)) (va_Qr F (fun u a t => a = res u ∧ Bd D (va_A wc sz) w1 u t) (va_A wc sz)) 0 0 (va_A wc sz)
/-! what a call leaves: the callee's cells at their old places, new ones behind -/
def q_put : va_W → List Nat → va_W → va_W
  | ws, [], cs => ws ++ cs
  | ws, i :: is, c :: cs => q_put (ws.set i c) is cs
  | ws, _ :: _, [] => ws
theorem q_set_self {α : Type} : ∀ (l : List α) (i : Nat) (a : α), l[i]? = some a → l.set i a = l
  | [], _, _, _ => rfl
  | b :: l, 0, a, h => by rw [List.getElem?_cons_zero] at h; cases h; rfl
  | b :: l, i + 1, a, h => by
    rw [List.getElem?_cons_succ] at h
    show b :: l.set i a = b :: l
    rw [q_set_self l i a h]
theorem q_put_ad : ∀ (is : List Nat) (ws w1 : va_W), is.map (fun i => (ws.map (fun q => q.1))[i]?) = ((w1.map (fun q => q.1)).take is.length).map some → (q_put ws is w1).map (fun q => q.1) = ws.map (fun q => q.1) ++ (w1.drop is.length).map (fun q => q.1)
  | [], ws, w1, _ => by simp [q_put]
  | i :: is, ws, [], h => by simp at h
  | i :: is, ws, c :: cs, h => by
    simp only [List.map_cons, List.length_cons, List.take_succ_cons, List.cons.injEq] at h
    have e : (ws.set i c).map (fun q => q.1) = ws.map (fun q => q.1) := by
      rw [List.map_set]
      exact q_set_self _ _ _ h.1
    show (q_put (ws.set i c) is cs).map (fun q => q.1) = _
    rw [q_put_ad is (ws.set i c) cs (by rw [e]; exact h.2), e]
    rfl
theorem q_put_mem : ∀ (is : List Nat) (ws w1 : va_W), is.length ≤ w1.length → ∀ (k : Nat) (q : Nat × va_E), (q_put ws is w1)[k]? = some q → q ∈ w1 ∨ ∃ i, ws[i]? = some q ∧ i ∉ is
  | [], ws, w1, _, k, q, h => by
    rw [q_put] at h
    rcases List.mem_append.mp (List.mem_of_getElem? h) with h1 | h1
    · obtain ⟨i, hi⟩ := List.getElem?_of_mem h1
      exact Or.inr ⟨i, hi, List.not_mem_nil⟩
    · exact Or.inl h1
  | i :: is, ws, [], hl, k, q, h => by simp at hl
  | i :: is, ws, c :: cs, hl, k, q, h => by
    rcases q_put_mem is (ws.set i c) cs (by simpa using hl) k q h with h1 | ⟨j, hj, hn⟩
    · exact Or.inl (List.mem_cons_of_mem _ h1)
    · by_cases hij : j = i
      · subst hij
        have hlt : j < (ws.set j c).length := (List.getElem?_eq_some_iff.mp hj).1
        rw [List.length_set] at hlt
        rw [List.getElem?_set_self hlt] at hj
        cases hj
        exact Or.inl List.mem_cons_self
      · rw [List.getElem?_set_ne (Ne.symm hij)] at hj
        refine Or.inr ⟨j, hj, fun z => ?_⟩
        rcases List.mem_cons.mp z with z | z
        · exact hij z
        · exact hn z
theorem va_D_ad {A : Nat → Prop} {W W' : va_W} (h : W'.map (fun q => q.1) = W.map (fun q => q.1)) (hD : va_D A W) : va_D A W' := by
  have key : ∀ (i : Nat) (p : Nat × va_E), W'[i]? = some p → ∃ p0, W[i]? = some p0 ∧ p0.1 = p.1 := by
    intro i p hp
    have h1 : (W'.map (fun q => q.1))[i]? = some p.1 := by rw [List.getElem?_map, hp]; rfl
    rw [h, List.getElem?_map] at h1
    cases hw : W[i]? with
    | none => rw [hw] at h1; cases h1
    | some p0 => rw [hw] at h1; exact ⟨p0, rfl, Option.some.inj h1⟩
  refine ⟨fun i j p q hp hq e => ?_, fun k q hq => ?_⟩
  · obtain ⟨p0, a1, a2⟩ := key i p hp
    obtain ⟨q0, b1, b2⟩ := key j q hq
    exact hD.1 i j p0 q0 a1 b1 (by rw [a2, b2]; exact e)
  · obtain ⟨q0, a1, a2⟩ := key k q hq
    rw [← a2]
    exact hD.2 k q0 a1
theorem q_at {is : List Nat} {ws w : va_W} (hs : is.map (fun i => ws[i]?) = w.map some) (k : Nat) (q : Nat × va_E) (hq : w[k]? = some q) : ∃ i, is[k]? = some i ∧ ws[i]? = some q := by
  have h1 : (is.map (fun i => ws[i]?))[k]? = some (some q) := by rw [hs, List.getElem?_map, hq]; rfl
  rw [List.getElem?_map] at h1
  cases hi : is[k]? with
  | none => rw [hi] at h1; cases h1
  | some i => rw [hi] at h1; exact ⟨i, rfl, Option.some.inj h1⟩
theorem q_sub {D : va_G} {ws w : va_W} {H : Heap} {is : List Nat} (hs : is.map (fun i => ws[i]?) = w.map some) (h : va_P D vwCl ws H) : va_P D vwCl w H := fun k q hq => by
  obtain ⟨i, -, hi⟩ := q_at hs k q hq
  exact h i q hi
theorem q_join {A0 : Nat → Prop} {D : va_G} {ws wc w1 : va_W} {H H1 : Heap} (hP : va_P D vwCl ws H) (hD : va_D A0 ws) (isC : List Nat) (hC : isC.map (fun i => ws[i]?) = wc.map some) (hadr : (w1.map (fun q => q.1)).take wc.length = wc.map (fun q => q.1))
    (hk : ∀ q : Nat, q < H.size → ¬ va_A wc H.size q → H1[q]? = H[q]?) (hF : ∀ q, va_A wc H.size q → A0 q) (hP1 : va_P D vwCl w1 H1) (hD1 : va_D (va_A wc H.size) w1) : va_P D vwCl (q_put ws isC w1) H1 ∧ va_D A0 (q_put ws isC w1) := by
  have hlen : isC.length = wc.length := by have h := congrArg List.length hC; simpa using h
  have hlen1 : isC.length ≤ w1.length := by
    have h := congrArg List.length hadr
    simp only [List.length_take, List.length_map] at h
    omega
  refine ⟨fun k q hq => ?_, ?_⟩
  · rcases q_put_mem isC ws w1 hlen1 k q hq with h | ⟨i, hi, hn⟩
    · obtain ⟨j, hj⟩ := List.getElem?_of_mem h
      exact hP1 j q hj
    · have hl := (hP i q hi).lt
      refine (hP i q hi).kept (hk q.1 hl fun h => ?_)
      rcases h with ⟨k2, e, h⟩ | h
      · obtain ⟨j, h3, h4⟩ := q_at hC k2 (q.1, e) h
        have hij := hD.1 i j q (q.1, e) hi h4 rfl
        subst hij
        exact hn (List.mem_of_getElem? h3)
      · omega
  · have e1 : isC.map (fun i => (ws.map (fun q => q.1))[i]?) = ((w1.map (fun q => q.1)).take isC.length).map some := by
      rw [hlen, hadr]
      apply List.ext_getElem?
      intro j
      rw [List.getElem?_map, List.getElem?_map, List.getElem?_map]
      cases hw : wc[j]? with
      | none =>
        have : isC[j]? = none := by
          rw [List.getElem?_eq_none_iff] at hw ⊢
          omega
        rw [this]; rfl
      | some q =>
        obtain ⟨i, h1, h2⟩ := q_at hC j q hw
        rw [h1]
        show some ((ws.map (fun q => q.1))[i]?) = some (some q.1)
        rw [List.getElem?_map, h2]; rfl
    have e2 := q_put_ad isC ws w1 e1
    refine va_D_ad (W := ws ++ w1.drop isC.length) (by rw [e2, List.map_append]) (va_D.app hD ⟨fun i j p q hp hq e => ?_, fun k q hq => ?_⟩ (fun i j p q hp hq e => ?_))
    · rw [List.getElem?_drop] at hp hq
      have := hD1.1 _ _ p q hp hq e
      omega
    · rw [List.getElem?_drop] at hq
      exact hF _ (hD1.2 _ q hq)
    · rw [List.getElem?_drop] at hq
      rcases hD1.2 _ q hq with ⟨k2, e3, h⟩ | h
      · have hk2 : k2 < wc.length := (List.getElem?_eq_some_iff.mp h).1
        have h5 : ((w1.map (fun q => q.1)).take wc.length)[k2]? = some q.1 := by rw [hadr, List.getElem?_map, h]; rfl
        rw [List.getElem?_take_of_lt hk2, List.getElem?_map] at h5
        cases hw : w1[k2]? with
        | none => rw [hw] at h5; cases h5
        | some q2 =>
          rw [hw] at h5
          have := hD1.1 _ _ q2 q hw hq (Option.some.inj h5)
          omega
      · have := (hP i p hp).lt
        omega
theorem goodU {y : MethodName} {cc : ByteArray} {maxL : Nat} {ret : Option FieldType} (hc : Cond.code y cc maxL ret ∈ gtbl) : GoodIn gtbl (wU y cc maxL ret) := by
  have k : ∀ w ∈ gtbl, w ∈ gtbl ∧ ((w.onTables && w.keeps) = true ∨ ∃ ty, w = .arrayClass ty) := fun w hw => ⟨hw, good_of_word (List.mem_filter.mp hw).2⟩
  intro w hw
  rcases List.mem_cons.mp hw with h | h
  · rw [h]; exact k _ hc
  · exact k w h
/-- the links of a call: of a method of its own class, of a nest mate; virtual, static, a constructor -/
def LkV (own : String) (idx : Nat) (y : MethodName) (cc : ByteArray) (maxL : Nat) (ret : Option FieldType) (n : Nat) : Prop := Cond.methodLink own idx y ∈ gtbl ∧ Cond.instanceMethod y ∈ gtbl ∧ Cond.selects y.cls y y ∈ gtbl ∧ Cond.initialized y.cls ∈ gtbl ∧ Cond.code y cc maxL ret ∈ gtbl ∧ (y.cls ≠ "java/lang/invoke/MethodHandle" ∧ y.cls ≠ "java/lang/invoke/VarHandle" ∧ (parseMethodDescriptor y.desc).map (fun d => d.parameters.length) = some n)
def LkS (own : String) (idx : Nat) (y : MethodName) (cc : ByteArray) (maxL : Nat) (ret : Option FieldType) (n : Nat) : Prop := Cond.methodLink own idx y ∈ gtbl ∧ Cond.static y ∈ gtbl ∧ Cond.initialized y.cls ∈ gtbl ∧ Cond.code y cc maxL ret ∈ gtbl ∧ (y.cls ≠ "java/lang/invoke/MethodHandle" ∧ y.cls ≠ "java/lang/invoke/VarHandle" ∧ (parseMethodDescriptor y.desc).map (fun d => d.parameters.length) = some n)
def LkI (own : String) (idx : Nat) (y : MethodName) (cc : ByteArray) (maxL : Nat) (n : Nat) : Prop := Cond.methodLink own idx y ∈ gtbl ∧ Cond.instanceMethod y ∈ gtbl ∧ y.name = "<init>" ∧ Cond.initialized y.cls ∈ gtbl ∧ Cond.code y cc maxL none ∈ gtbl ∧ (y.cls ≠ "java/lang/invoke/MethodHandle" ∧ y.cls ≠ "java/lang/invoke/VarHandle" ∧ (parseMethodDescriptor y.desc).map (fun d => d.parameters.length) = some n)
def LkNV (own : String) (idx : Nat) (y : MethodName) (host : String) (cc : ByteArray) (maxL : Nat) (ret : Option FieldType) (n : Nat) : Prop := Cond.methodLinkNest own idx y host ∈ nestW ∧ Cond.instanceMethod y ∈ gtbl ∧ Cond.selects y.cls y y ∈ gtbl ∧ Cond.initialized y.cls ∈ gtbl ∧ Cond.code y cc maxL ret ∈ gtbl ∧ (y.cls ≠ "java/lang/invoke/MethodHandle" ∧ y.cls ≠ "java/lang/invoke/VarHandle" ∧ (parseMethodDescriptor y.desc).map (fun d => d.parameters.length) = some n)
def LkNS (own : String) (idx : Nat) (y : MethodName) (host : String) (cc : ByteArray) (maxL : Nat) (ret : Option FieldType) (n : Nat) : Prop := Cond.methodLinkNest own idx y host ∈ nestW ∧ Cond.static y ∈ gtbl ∧ Cond.initialized y.cls ∈ gtbl ∧ Cond.code y cc maxL ret ∈ gtbl ∧ (y.cls ≠ "java/lang/invoke/MethodHandle" ∧ y.cls ≠ "java/lang/invoke/VarHandle" ∧ (parseMethodDescriptor y.desc).map (fun d => d.parameters.length) = some n)
def LkNI (own : String) (idx : Nat) (y : MethodName) (host : String) (cc : ByteArray) (maxL : Nat) (n : Nat) : Prop := Cond.methodLinkNest own idx y host ∈ nestW ∧ Cond.instanceMethod y ∈ gtbl ∧ y.name = "<init>" ∧ Cond.initialized y.cls ∈ gtbl ∧ Cond.code y cc maxL none ∈ gtbl ∧ (y.cls ≠ "java/lang/invoke/MethodHandle" ∧ y.cls ≠ "java/lang/invoke/VarHandle" ∧ (parseMethodDescriptor y.desc).map (fun d => d.parameters.length) = some n)
section QK
variable {p : Program} {l : Launch} {e : Env} {R : Room} {s : State} {m : MethodId} {args : Array Value} {below : List Frame} {meth : Method} {c : Code} {H : Heap} {locs : List Loc} {cells slots : Nat} {Q : State → Prop}
variable {cc bytes : ByteArray} {pc : Nat} {ls : Array Slot} {rest : List Value} {D : va_G} {A : Nat → Prop} {a : Nat} {ws : va_W} {cI cJ cZ : ClassId} {nL : Nat} {own host : String} {y : MethodName} {maxL n mc ms k idx : Nat} {ret : Option FieldType} {Qc : Array Value → State → Outcome → State → Prop} {b : Addr} {As : List Value} {wc wc' : va_W} {ci : Nat} {fs : List Value} {S : Type}
theorem q_hp (hE : EV p m c cc nL s args own D cI cJ cZ A) (hst : SS D A s ws H locs) {isC : List Nat} (hn2 : va_nd isC = true) (hC : isC.map (fun i => ws[i]?) = wc.map some) (av : List Value) : FrameBlind (va_Pc av (PcU D cI cJ cZ wc H.size)) ∧ ∀ U : State, U.heap = H → s.WarmedH U.vm → va_Pc av (PcU D cI cJ cZ wc H.size) av.toArray U := by
  obtain ⟨-, hK, hG, hA⟩ := hE
  obtain ⟨hP, hD, hS⟩ := hst
  exact ⟨PcU.blind, fun U hU hW => ⟨rfl, by rw [hU], by rw [hU]; exact q_sub hC hP, va_K.moved hW.alike hK, (hD.sub isC hn2 hC).weaken (fun _ _ _ _ => trivial), GX.go hG hW hU (fun a h1 h2 => hS.2.1 a h1 h2) (va_free hD hS hA isC hC)⟩⟩
theorem q_recv (hE : EV p m c cc nL s args own D cI cJ cZ A) (hst : SS D A s ws H locs) {isC : List Nat} (hC : isC.map (fun i => ws[i]?) = wc.map some) (hw : wc = (b, .inr (ci, fs)) :: wc') {C : String} (hci : (vwCl[ci]?).map (fun q => q.1) = some C) : ∃ cell : Cell, H[b]? = some cell ∧ cell.vm.isStatics = false ∧ s.vm.findClass C = some cell.cls := by
  cases hq : vwCl[ci]? with
  | none => rw [hq] at hci; cases hci
  | some q =>
    rw [hq] at hci
    have e : q.1 = C := Option.some.inj hci
    rw [← e]
    exact va_recv hE.2.1 (q_sub hC hst.1) hq (q0 := 0) (by rw [hw]; rfl)
theorem q_rV (hE : EV p m c cc nL s args own D cI cJ cZ A) (lk : LkV own idx y bytes maxL ret n) (hM : Met l y (wU y bytes maxL ret) (rmN k mc ms) (va_Pc (.ref b :: As) (PcU D cI cJ cZ wc H.size)) Qc mc ms (va_A wc H.size)) (hst : SS D A s ws H locs) (isC : List Nat) (hC : isC.map (fun i => ws[i]?) = wc.map some) (hn2 : va_nd isC = true) (hw : wc = (b, .inr (ci, fs)) :: wc') (hci : (vwCl[ci]?).map (fun q => q.1) = some y.cls) (hn : As.length = n) (hsz : ls.size = nL)
    (hroom : k + 1 ≤ R.frames ∧ 8 + (maxL + 11) + 40 * k ≤ R.locals) {st : List Value} (hstk : st = As.reverse ++ .ref b :: rest) (hrest : (rest.map fun v => v.category).sum ≤ 8) (hdg : decode cc pc = .ok (.invokevirtual idx, 3)) (hf : cells + mc ≤ R.cells ∧ slots + ms ≤ R.slots) : va_Run p l e R s m args below meth c H locs cells slots mc ms (F0 m pc ls st) rest (Qc (Value.ref b :: As).toArray) (va_A wc H.size) := by
  obtain ⟨g1, g2, g3, g4, g5, g6⟩ := lk
  have hp := q_hp hE hst hn2 hC (.ref b :: As)
  have hts := hE.1.2.2.2.2
  exact va_runV hE.1 hM ⟨callB_of n hts (goodU g5) rfl rfl rfl (hts _ g4) (hts _ g1) g6 hroom, hts _ g2, hts _ g3⟩ ⟨hp.1, q_recv hE hst hC hw hci, hp.2⟩ rfl hn hsz hstk (lv_room hrest) hdg hf
theorem q_rS (hE : EV p m c cc nL s args own D cI cJ cZ A) (lk : LkS own idx y bytes maxL ret n) (hM : Met l y (wU y bytes maxL ret) (rmN k mc ms) (va_Pc As (PcU D cI cJ cZ wc H.size)) Qc mc ms (va_A wc H.size)) (hst : SS D A s ws H locs) (isC : List Nat) (hC : isC.map (fun i => ws[i]?) = wc.map some) (hn2 : va_nd isC = true) (hn : As.length = n) (hsz : ls.size = nL)
    (hroom : k + 1 ≤ R.frames ∧ 8 + (maxL + 11) + 40 * k ≤ R.locals) {st : List Value} (hstk : st = As.reverse ++ rest) (hrest : (rest.map fun v => v.category).sum ≤ 8) (hdg : decode cc pc = .ok (.invokestatic idx, 3)) (hf : cells + mc ≤ R.cells ∧ slots + ms ≤ R.slots) : va_Run p l e R s m args below meth c H locs cells slots mc ms (F0 m pc ls st) rest (Qc As.toArray) (va_A wc H.size) := by
  obtain ⟨g1, g2, g4, g5, g6⟩ := lk
  have hts := hE.1.2.2.2.2
  exact va_runS hE.1 hM ⟨callB_of n hts (goodU g5) rfl rfl rfl (hts _ g4) (hts _ g1) g6 hroom, hts _ g2⟩ (q_hp hE hst hn2 hC As) rfl hn hsz hstk (lv_room hrest) hdg hf
theorem q_rI (hE : EV p m c cc nL s args own D cI cJ cZ A) (lk : LkI own idx y bytes maxL n) (hM : Met l y (wU y bytes maxL none) (rmN k mc ms) (va_Pc (.ref b :: As) (PcU D cI cJ cZ wc H.size)) Qc mc ms (va_A wc H.size)) (hst : SS D A s ws H locs) (isC : List Nat) (hC : isC.map (fun i => ws[i]?) = wc.map some) (hn2 : va_nd isC = true) (hn : As.length = n) (hsz : ls.size = nL)
    (hroom : k + 1 ≤ R.frames ∧ 8 + (maxL + 11) + 40 * k ≤ R.locals) {st : List Value} (hstk : st = As.reverse ++ .ref b :: rest) (hrest : (rest.map fun v => v.category).sum ≤ 8) (hdg : decode cc pc = .ok (.invokespecial idx, 3)) (hf : cells + mc ≤ R.cells ∧ slots + ms ≤ R.slots) : va_Run p l e R s m args below meth c H locs cells slots mc ms (F0 m pc ls st) rest (Qc (Value.ref b :: As).toArray) (va_A wc H.size) := by
  obtain ⟨g1, g2, g3, g4, g5, g6⟩ := lk
  have hts := hE.1.2.2.2.2
  exact va_runI hE.1 hM ⟨callB_of n hts (goodU g5) rfl rfl rfl (hts _ g4) (hts _ g1) g6 hroom, g3, hts _ g2⟩ (q_hp hE hst hn2 hC (.ref b :: As)) rfl hn hsz hstk (lv_room hrest) hdg hf
theorem q_rNV (hE : EV p m c cc nL s args own D cI cJ cZ A) (lk : LkNV own idx y host bytes maxL ret n) (hM : Met l y (wU y bytes maxL ret) (rmN k mc ms) (va_Pc (.ref b :: As) (PcU D cI cJ cZ wc H.size)) Qc mc ms (va_A wc H.size)) (hst : SS D A s ws H locs) (isC : List Nat) (hC : isC.map (fun i => ws[i]?) = wc.map some) (hn2 : va_nd isC = true) (hw : wc = (b, .inr (ci, fs)) :: wc') (hci : (vwCl[ci]?).map (fun q => q.1) = some y.cls) (hn : As.length = n) (hsz : ls.size = nL)
    (hroom : k + 1 ≤ R.frames ∧ 8 + (maxL + 11) + 40 * k ≤ R.locals) {st : List Value} (hstk : st = As.reverse ++ .ref b :: rest) (hrest : (rest.map fun v => v.category).sum ≤ 8) (hdg : decode cc pc = .ok (.invokevirtual idx, 3)) (hf : cells + mc ≤ R.cells ∧ slots + ms ≤ R.slots) : va_Run p l e R s m args below meth c H locs cells slots mc ms (F0 m pc ls st) rest (Qc (Value.ref b :: As).toArray) (va_A wc H.size) := by
  obtain ⟨g1, g2, g3, g4, g5, g6⟩ := lk
  have hp := q_hp hE hst hn2 hC (.ref b :: As)
  have hts := hE.1.2.2.2.2
  exact va_runVN hE.1 hM ⟨va_cnB n hts (goodU g5) rfl rfl rfl (hE.2.2.1.1 _ g1) (hts _ g4) g6 hroom, hts _ g2, hts _ g3⟩ ⟨hp.1, q_recv hE hst hC hw hci, hp.2⟩ rfl hn hsz hstk (lv_room hrest) hdg hf
theorem q_rNS (hE : EV p m c cc nL s args own D cI cJ cZ A) (lk : LkNS own idx y host bytes maxL ret n) (hM : Met l y (wU y bytes maxL ret) (rmN k mc ms) (va_Pc As (PcU D cI cJ cZ wc H.size)) Qc mc ms (va_A wc H.size)) (hst : SS D A s ws H locs) (isC : List Nat) (hC : isC.map (fun i => ws[i]?) = wc.map some) (hn2 : va_nd isC = true) (hn : As.length = n) (hsz : ls.size = nL)
    (hroom : k + 1 ≤ R.frames ∧ 8 + (maxL + 11) + 40 * k ≤ R.locals) {st : List Value} (hstk : st = As.reverse ++ rest) (hrest : (rest.map fun v => v.category).sum ≤ 8) (hdg : decode cc pc = .ok (.invokestatic idx, 3)) (hf : cells + mc ≤ R.cells ∧ slots + ms ≤ R.slots) : va_Run p l e R s m args below meth c H locs cells slots mc ms (F0 m pc ls st) rest (Qc As.toArray) (va_A wc H.size) := by
  obtain ⟨g1, g2, g4, g5, g6⟩ := lk
  have hts := hE.1.2.2.2.2
  exact va_runSN hE.1 hM ⟨va_cnB n hts (goodU g5) rfl rfl rfl (hE.2.2.1.1 _ g1) (hts _ g4) g6 hroom, hts _ g2, trivial⟩ (q_hp hE hst hn2 hC As) rfl hn hsz hstk (lv_room hrest) hdg hf
theorem q_rNI (hE : EV p m c cc nL s args own D cI cJ cZ A) (lk : LkNI own idx y host bytes maxL n) (hM : Met l y (wU y bytes maxL none) (rmN k mc ms) (va_Pc (.ref b :: As) (PcU D cI cJ cZ wc H.size)) Qc mc ms (va_A wc H.size)) (hst : SS D A s ws H locs) (isC : List Nat) (hC : isC.map (fun i => ws[i]?) = wc.map some) (hn2 : va_nd isC = true) (hn : As.length = n) (hsz : ls.size = nL)
    (hroom : k + 1 ≤ R.frames ∧ 8 + (maxL + 11) + 40 * k ≤ R.locals) {st : List Value} (hstk : st = As.reverse ++ .ref b :: rest) (hrest : (rest.map fun v => v.category).sum ≤ 8) (hdg : decode cc pc = .ok (.invokespecial idx, 3)) (hf : cells + mc ≤ R.cells ∧ slots + ms ≤ R.slots) : va_Run p l e R s m args below meth c H locs cells slots mc ms (F0 m pc ls st) rest (Qc (Value.ref b :: As).toArray) (va_A wc H.size) := by
  obtain ⟨g1, g2, g3, g4, g5, g6⟩ := lk
  have hts := hE.1.2.2.2.2
  exact va_runIN hE.1 hM ⟨va_cnB n hts (goodU g5) rfl rfl rfl (hE.2.2.1.1 _ g1) (hts _ g4) g6 hroom, g3, hts _ g2⟩ (q_hp hE hst hn2 hC (.ref b :: As)) rfl hn hsz hstk (lv_room hrest) hdg hf
theorem q_goI {res : S → Int32} {F : S → Prop} {w1 : S → va_W} {av : Array Value} {st : List Value} (hr : va_Run p l e R s m args below meth c H locs cells slots 0 0 (F0 m pc ls st) rest (va_Qi (fun r u => r = res u ∧ F u) (Bd D (va_A wc H.size) w1) (va_A wc H.size) av) (va_A wc H.size)) (hE : EV p m c cc nL s args own D cI cJ cZ A) (hst : SS D A s ws H locs) (isC : List Nat) (hC : isC.map (fun i => ws[i]?) = wc.map some)
    (hadr : ∀ u, ((w1 u).map (fun q => q.1)).take wc.length = wc.map (fun q => q.1)) (ws' : S → va_W) (hws : ∀ u, q_put ws isC (w1 u) = ws' u) (kk : ∀ (u : S) (H1 : Heap) (locs1 : List Loc), F u → SS D A s (ws' u) H1 locs1 → W p l e R s m args below meth c H1 locs1 cells slots Q (F0 m (pc + 3) ls (.int (res u) :: rest))) : W p l e R s m args below meth c H locs cells slots Q (F0 m pc ls st) := by
  have hFc := va_free hst.2.1 hst.2.2 hE.2.2.2 isC hC
  refine va_calli hr hst.2.2 (fun q _ h => hFc q h) hFc (fun r u t H1 locs1 ht hvm hp hB hz hk hS => ?_)
  obtain ⟨rfl, hF⟩ := hp
  obtain ⟨hP1, hD1⟩ := hB
  rw [ht] at hP1
  obtain ⟨g1, g2⟩ := q_join hst.1 hst.2.1 isC hC (hadr u) hk hFc hP1 hD1
  exact kk u H1 locs1 hF ⟨hws u ▸ g1, hws u ▸ g2, hS⟩
theorem q_goL {res : S → Int64} {F : S → Prop} {w1 : S → va_W} {av : Array Value} {st : List Value} (hr : va_Run p l e R s m args below meth c H locs cells slots 0 0 (F0 m pc ls st) rest (va_Ql (fun r u => r = res u ∧ F u) (Bd D (va_A wc H.size) w1) (va_A wc H.size) av) (va_A wc H.size)) (hE : EV p m c cc nL s args own D cI cJ cZ A) (hst : SS D A s ws H locs) (isC : List Nat) (hC : isC.map (fun i => ws[i]?) = wc.map some)
    (hadr : ∀ u, ((w1 u).map (fun q => q.1)).take wc.length = wc.map (fun q => q.1)) (ws' : S → va_W) (hws : ∀ u, q_put ws isC (w1 u) = ws' u) (kk : ∀ (u : S) (H1 : Heap) (locs1 : List Loc), F u → SS D A s (ws' u) H1 locs1 → W p l e R s m args below meth c H1 locs1 cells slots Q (F0 m (pc + 3) ls (.long (res u) :: rest))) : W p l e R s m args below meth c H locs cells slots Q (F0 m pc ls st) := by
  have hFc := va_free hst.2.1 hst.2.2 hE.2.2.2 isC hC
  refine va_calll hr hst.2.2 (fun q _ h => hFc q h) hFc (fun r u t H1 locs1 ht hvm hp hB hz hk hS => ?_)
  obtain ⟨rfl, hF⟩ := hp
  obtain ⟨hP1, hD1⟩ := hB
  rw [ht] at hP1
  obtain ⟨g1, g2⟩ := q_join hst.1 hst.2.1 isC hC (hadr u) hk hFc hP1 hD1
  exact kk u H1 locs1 hF ⟨hws u ▸ g1, hws u ▸ g2, hS⟩
theorem q_goV {F : S → Prop} {w1 : S → va_W} {av : Array Value} {st : List Value} (hr : va_Run p l e R s m args below meth c H locs cells slots mc ms (F0 m pc ls st) rest (va_Qv F (Bd D (va_A wc H.size) w1) (va_A wc H.size) av) (va_A wc H.size)) (hE : EV p m c cc nL s args own D cI cJ cZ A) (hst : SS D A s ws H locs) (isC : List Nat) (hC : isC.map (fun i => ws[i]?) = wc.map some)
    (hadr : ∀ u, ((w1 u).map (fun q => q.1)).take wc.length = wc.map (fun q => q.1)) (ws' : S → va_W) (hws : ∀ u, q_put ws isC (w1 u) = ws' u) (kk : ∀ (u : S) (H1 : Heap) (locs1 : List Loc), F u → SS D A s (ws' u) H1 locs1 → W p l e R s m args below meth c H1 locs1 (cells + mc) (slots + ms) Q (F0 m (pc + 3) ls rest)) : W p l e R s m args below meth c H locs cells slots Q (F0 m pc ls st) := by
  have hFc := va_free hst.2.1 hst.2.2 hE.2.2.2 isC hC
  refine va_callv hr hst.2.2 (fun q _ h => hFc q h) hFc (fun u t H1 locs1 ht hvm hp hB hz hk hS => ?_)
  obtain ⟨hP1, hD1⟩ := hB
  rw [ht] at hP1
  obtain ⟨g1, g2⟩ := q_join hst.1 hst.2.1 isC hC (hadr u) hk hFc hP1 hD1
  exact kk u H1 locs1 hp ⟨hws u ▸ g1, hws u ▸ g2, hS⟩
theorem q_goR {res : S → Nat} {F : S → Prop} {w1 : S → va_W} {av : Array Value} {st : List Value} (hr : va_Run p l e R s m args below meth c H locs cells slots 0 0 (F0 m pc ls st) rest (va_Qr F (fun u a t => a = res u ∧ Bd D (va_A wc H.size) w1 u t) (va_A wc H.size) av) (va_A wc H.size)) (hE : EV p m c cc nL s args own D cI cJ cZ A) (hst : SS D A s ws H locs) (isC : List Nat) (hC : isC.map (fun i => ws[i]?) = wc.map some)
    (hadr : ∀ u, ((w1 u).map (fun q => q.1)).take wc.length = wc.map (fun q => q.1)) (ws' : S → va_W) (hws : ∀ u, q_put ws isC (w1 u) = ws' u) (kk : ∀ (u : S) (H1 : Heap) (locs1 : List Loc), F u → SS D A s (ws' u) H1 locs1 → W p l e R s m args below meth c H1 locs1 cells slots Q (F0 m (pc + 3) ls (.ref (res u) :: rest))) : W p l e R s m args below meth c H locs cells slots Q (F0 m pc ls st) := by
  have hFc := va_free hst.2.1 hst.2.2 hE.2.2.2 isC hC
  refine va_callr hr hst.2.2 (fun q _ h => hFc q h) hFc (fun u ra t H1 locs1 ht hvm hp hB hz hk hS => ?_)
  obtain ⟨rfl, hP1, hD1⟩ := hB
  rw [ht] at hP1
  obtain ⟨g1, g2⟩ := q_join hst.1 hst.2.1 isC hC (hadr u) hk hFc hP1 hD1
  exact kk u H1 locs1 hp ⟨hws u ▸ g1, hws u ▸ g2, hS⟩
theorem nI_def (n : Nat) : Int32.ofNat n = nI n := rfl
/-! arrays -/
theorem q_ald (hE : EV p m c cc nL s args own D cI cJ cZ A) (hst : SS D A s ws H locs) (q0 : Nat) {N : Nat} {f : Nat → Int32} (ha : ws[q0]? = some (a, .inl (cI, N, .inl f))) {i : Int32} (hin : vp_in i N) (hdg : decode cc pc = .ok (.iaload, 1)) (kk : W p l e R s m args below meth c H locs cells slots Q (F0 m (pc + 1) ls (.int (f i.toNatClampNeg) :: rest))) : W p l e R s m args below meth c H locs cells slots Q (F0 m pc ls (.int i :: .ref a :: rest)) :=
  va_iald hE.1.1 hE.1.2.1 hE.2.1 hst.1 q0 0 ha rfl hin hdg kk
theorem q_aldN (hE : EV p m c cc nL s args own D cI cJ cZ A) (hst : SS D A s ws H locs) (q0 : Nat) {N : Nat} {f : Nat → Int32} (ha : ws[q0]? = some (a, .inl (cI, N, .inl f))) (j : Nat) {i : Int32} (hi : i = nI j) (hj : j < N) (hN : N < 2147483648) (hdg : decode cc pc = .ok (.iaload, 1)) (kk : W p l e R s m args below meth c H locs cells slots Q (F0 m (pc + 1) ls (.int (f j) :: rest))) : W p l e R s m args below meth c H locs cells slots Q (F0 m pc ls (.int i :: .ref a :: rest)) := by
  subst hi
  exact q_ald hE hst q0 ha (vp_in_nI hj hN) hdg (by rw [nI_clamp (by omega)]; exact kk)
theorem q_zldN (hE : EV p m c cc nL s args own D cI cJ cZ A) (hst : SS D A s ws H locs) (q0 : Nat) {N : Nat} {f : Nat → Int32} (ha : ws[q0]? = some (a, .inl (cZ, N, .inl f))) (j : Nat) {i : Int32} (hi : i = nI j) (hj : j < N) (hN : N < 2147483648) (hdg : decode cc pc = .ok (.baload, 1)) (kk : W p l e R s m args below meth c H locs cells slots Q (F0 m (pc + 1) ls (.int (f j) :: rest))) : W p l e R s m args below meth c H locs cells slots Q (F0 m pc ls (.int i :: .ref a :: rest)) := by
  subst hi
  refine va_zald hE.1.1 hE.1.2.1 hE.2.1 hst.1 q0 2 ha rfl (vp_in_nI hj hN) hdg ?_
  rw [nI_clamp (by omega)]
  exact kk
theorem q_lald (hE : EV p m c cc nL s args own D cI cJ cZ A) (hst : SS D A s ws H locs) (q0 : Nat) {N : Nat} {f : Nat → Int64} (ha : ws[q0]? = some (a, .inl (cJ, N, .inr (.inl f)))) {i : Int32} (hin : vp_in i N) (hdg : decode cc pc = .ok (.laload, 1)) (kk : W p l e R s m args below meth c H locs cells slots Q (F0 m (pc + 1) ls (.long (f i.toNatClampNeg) :: rest))) : W p l e R s m args below meth c H locs cells slots Q (F0 m pc ls (.int i :: .ref a :: rest)) :=
  va_lald hE.1.1 hE.1.2.1 hE.2.1 hst.1 q0 1 ha rfl hin hdg kk
theorem q_ast (hE : EV p m c cc nL s args own D cI cJ cZ A) (hst : SS D A s ws H locs) (q0 : Nat) {N : Nat} {f : Nat → Int32} (ha : ws[q0]? = some (a, .inl (cI, N, .inl f))) {i x : Int32} (hin : vp_in i N) (ws' : va_W) (hws : ws.set q0 (a, .inl (cI, N, .inl (upd f i.toNatClampNeg x))) = ws') (hdg : decode cc pc = .ok (.iastore, 1)) (kk : ∀ (H1 : Heap) (locs1 : List Loc), SS D A s ws' H1 locs1 → W p l e R s m args below meth c H1 locs1 cells slots Q (F0 m (pc + 1) ls rest)) : W p l e R s m args below meth c H locs cells slots Q (F0 m pc ls (.int x :: .int i :: .ref a :: rest)) := by
  subst hws
  exact va_iast hE.1.1 hE.1.2.1 hE.2.1 hst.1 hst.2.1 hst.2.2 q0 0 ha rfl hin hdg (fun H1 l1 g1 g2 g3 => kk H1 l1 ⟨g1, g2, g3⟩)
theorem q_astN (hE : EV p m c cc nL s args own D cI cJ cZ A) (hst : SS D A s ws H locs) (q0 : Nat) {N : Nat} {f : Nat → Int32} (ha : ws[q0]? = some (a, .inl (cI, N, .inl f))) (j : Nat) {i x : Int32} (hi : i = nI j) (hj : j < N) (hN : N < 2147483648) (ws' : va_W) (hws : ws.set q0 (a, .inl (cI, N, .inl (upd f j x))) = ws') (hdg : decode cc pc = .ok (.iastore, 1)) (kk : ∀ (H1 : Heap) (locs1 : List Loc), SS D A s ws' H1 locs1 → W p l e R s m args below meth c H1 locs1 cells slots Q (F0 m (pc + 1) ls rest)) : W p l e R s m args below meth c H locs cells slots Q (F0 m pc ls (.int x :: .int i :: .ref a :: rest)) := by
  subst hi
  exact q_ast hE hst q0 ha (vp_in_nI hj hN) ws' (by rw [nI_clamp (by omega)]; exact hws) hdg kk
theorem q_zastN (hE : EV p m c cc nL s args own D cI cJ cZ A) (hst : SS D A s ws H locs) (q0 : Nat) {N : Nat} {f : Nat → Int32} (ha : ws[q0]? = some (a, .inl (cZ, N, .inl f))) (j : Nat) {i x : Int32} (hi : i = nI j) (hj : j < N) (hN : N < 2147483648) (hx : vp_nar .boolean x = x) (ws' : va_W) (hws : ws.set q0 (a, .inl (cZ, N, .inl (upd f j x))) = ws') (hdg : decode cc pc = .ok (.bastore, 1)) (kk : ∀ (H1 : Heap) (locs1 : List Loc), SS D A s ws' H1 locs1 → W p l e R s m args below meth c H1 locs1 cells slots Q (F0 m (pc + 1) ls rest)) : W p l e R s m args below meth c H locs cells slots Q (F0 m pc ls (.int x :: .int i :: .ref a :: rest)) := by
  subst hi
  subst hws
  refine va_zast hE.1.1 hE.1.2.1 hE.2.1 hst.1 hst.2.1 hst.2.2 q0 2 ha rfl (vp_in_nI hj hN) hdg (fun H1 l1 g1 g2 g3 => kk H1 l1 ⟨?_, ?_, g3⟩)
  · rw [nI_clamp (by omega), hx] at g1; exact g1
  · rw [nI_clamp (by omega), hx] at g2; exact g2
theorem q_last (hE : EV p m c cc nL s args own D cI cJ cZ A) (hst : SS D A s ws H locs) (q0 : Nat) {N : Nat} {f : Nat → Int64} (ha : ws[q0]? = some (a, .inl (cJ, N, .inr (.inl f)))) {i : Int32} {x : Int64} (hin : vp_in i N) (ws' : va_W) (hws : ws.set q0 (a, .inl (cJ, N, .inr (.inl (vp_updL f i.toNatClampNeg x)))) = ws') (hdg : decode cc pc = .ok (.lastore, 1)) (kk : ∀ (H1 : Heap) (locs1 : List Loc), SS D A s ws' H1 locs1 → W p l e R s m args below meth c H1 locs1 cells slots Q (F0 m (pc + 1) ls rest)) : W p l e R s m args below meth c H locs cells slots Q (F0 m pc ls (.long x :: .int i :: .ref a :: rest)) := by
  subst hws
  exact va_last hE.1.1 hE.1.2.1 hE.2.1 hst.1 hst.2.1 hst.2.2 q0 1 ha rfl hin hdg (fun H1 l1 g1 g2 g3 => kk H1 l1 ⟨g1, g2, g3⟩)
theorem q_len (hE : EV p m c cc nL s args own D cI cJ cZ A) (hst : SS D A s ws H locs) (q0 : Nat) {N : Nat} {f : Nat → Int32} (ha : ws[q0]? = some (a, .inl (cI, N, .inl f))) (hdg : decode cc pc = .ok (.arraylength, 1)) (kk : W p l e R s m args below meth c H locs cells slots Q (F0 m (pc + 1) ls (.int (nI N) :: rest))) : W p l e R s m args below meth c H locs cells slots Q (F0 m pc ls (.ref a :: rest)) :=
  va_alen hE.1.1 hE.1.2.1 hE.2.1 hst.1 q0 0 ha rfl rfl hdg kk
theorem q_lenL (hE : EV p m c cc nL s args own D cI cJ cZ A) (hst : SS D A s ws H locs) (q0 : Nat) {N : Nat} {f : Nat → Int64} (ha : ws[q0]? = some (a, .inl (cJ, N, .inr (.inl f)))) (hdg : decode cc pc = .ok (.arraylength, 1)) (kk : W p l e R s m args below meth c H locs cells slots Q (F0 m (pc + 1) ls (.int (nI N) :: rest))) : W p l e R s m args below meth c H locs cells slots Q (F0 m pc ls (.ref a :: rest)) :=
  va_alen hE.1.1 hE.1.2.1 hE.2.1 hst.1 q0 1 ha rfl rfl hdg kk
/-! constants of the pool, statics -/
theorem q_ldc (hE : EV p m c cc nL s args own D cI cJ cZ A) {v : Int32} (hc : Cond.constant own idx v ∈ gtbl) (hdg : decode cc pc = .ok (.ldc idx, 2)) (k : W p l e R s m args below meth c H locs cells slots Q (F0 m (pc + 2) ls (.int v :: rest))) : W p l e R s m args below meth c H locs cells slots Q (F0 m pc ls rest) := lv_ldc hE.1.1 hE.1.2.1 hE.1.2.2.2.1 (hE.1.2.2.2.2 _ hc) hdg k
theorem q_ldc2 (hE : EV p m c cc nL s args own D cI cJ cZ A) {v : Int64} (hc : Cond.constantLong own idx v ∈ gtbl) (hdg : decode cc pc = .ok (.ldc2_w idx, 3)) (k : W p l e R s m args below meth c H locs cells slots Q (F0 m (pc + 3) ls (.long v :: rest))) : W p l e R s m args below meth c H locs cells slots Q (F0 m pc ls rest) := lv_ldc2 hE.1.1 hE.1.2.1 hE.1.2.2.2.1 (hE.1.2.2.2.2 _ hc) hdg k
theorem q_gets (hE : EV p m c cc nL s args own D cI cJ cZ A) (hst : SS D A s ws H locs) {nm : String} {N : Nat} {f : Nat → Int32} (hT : GT nm N f A s) (hlink : Cond.fieldLink own idx "GlassJar" nm "[I" ∈ gtbl) (hdg : decode cc pc = .ok (.getstatic idx, 3)) (kk : ∀ t : Nat, va_T .int t N (fV f) A s s.heap → W p l e R s m args below meth c H locs cells slots Q (F0 m (pc + 3) ls (.ref t :: rest))) : W p l e R s m args below meth c H locs cells slots Q (F0 m pc ls rest) := by
  obtain ⟨t, cell, h1, h2, -⟩ := hT
  exact va_gets hE.1.1 hE.1.2.1 h1 hst.2.2 hE.1.2.2.2.1 (hE.1.2.2.2.2 _ hlink) (fun _ h => h) hdg (kk t h2)
theorem q_getsN (hE : EV p m c cc nL s args own D cI cJ cZ A) (hst : SS D A s ws H locs) {nm : String} {N : Nat} {f : Nat → Int32} (hT : GT nm N f A s) (hlink : Cond.fieldLinkNest own idx "GlassJar" nm "[I" host ∈ nestW) (hdg : decode cc pc = .ok (.getstatic idx, 3)) (kk : ∀ t : Nat, va_T .int t N (fV f) A s s.heap → W p l e R s m args below meth c H locs cells slots Q (F0 m (pc + 3) ls (.ref t :: rest))) : W p l e R s m args below meth c H locs cells slots Q (F0 m pc ls rest) := by
  obtain ⟨t, cell, h1, h2, -⟩ := hT
  exact va_getsN hE.1.1 hE.1.2.1 h1 hst.2.2 hE.1.2.2.2.1 (va_Nw.use rfl (hE.2.2.1.1 _ hlink)) (fun _ h => h) hdg (kk t h2)
/-! Math -/
theorem q_max (hE : EV p m c cc nL s args own D cI cJ cZ A) (hl : Cond.methodLink own idx Lib.Math.max.name ∈ gtbl) (hsz : ls.size = nL) (hf : 1 ≤ R.frames) (hlo : (rest.map fun v => v.category).sum + 13 ≤ R.locals) (hc : cells ≤ R.cells) (hs : slots ≤ R.slots) {x y : Int32} (hdg : decode cc pc = .ok (.invokestatic idx, 3)) (kk : W p l e R s m args below meth c H locs cells slots Q (F0 m (pc + 3) ls (.int (if x < y then y else x) :: rest))) : W p l e R s m args below meth c H locs cells slots Q (F0 m pc ls (.int y :: .int x :: rest)) :=
  va_mmax hE.1.1 hE.1.2.1 (hE.1.2.2.1.trans hsz.symm) hE.1.2.2.2.1 (hE.1.2.2.2.2 _ hl) (hE.1.2.2.2.2 _ wk_1_86) (hE.1.2.2.2.2 _ wk_1_5) (hE.1.2.2.2.2 _ wk_1_87) hf hlo hc hs hdg kk
theorem q_min (hE : EV p m c cc nL s args own D cI cJ cZ A) (hl : Cond.methodLink own idx Lib.Math.min.name ∈ gtbl) (hsz : ls.size = nL) (hf : 1 ≤ R.frames) (hlo : (rest.map fun v => v.category).sum + 13 ≤ R.locals) (hc : cells ≤ R.cells) (hs : slots ≤ R.slots) {x y : Int32} (hdg : decode cc pc = .ok (.invokestatic idx, 3)) (kk : W p l e R s m args below meth c H locs cells slots Q (F0 m (pc + 3) ls (.int (if y < x then y else x) :: rest))) : W p l e R s m args below meth c H locs cells slots Q (F0 m pc ls (.int y :: .int x :: rest)) :=
  va_mmin hE.1.1 hE.1.2.1 (hE.1.2.2.1.trans hsz.symm) hE.1.2.2.2.1 (hE.1.2.2.2.2 _ hl) (hE.1.2.2.2.2 _ wk_1_83) (hE.1.2.2.2.2 _ wk_1_5) (hE.1.2.2.2.2 _ wk_1_84) hf hlo hc hs hdg kk
theorem q_abs (hE : EV p m c cc nL s args own D cI cJ cZ A) (hl : Cond.methodLink own idx Lib.MathLoose.abs_long.x ∈ gtbl) (hsz : ls.size = nL) (hf : 1 ≤ R.frames) (hlo : (rest.map fun v => v.category).sum + 13 ≤ R.locals) (hc : cells ≤ R.cells) (hs : slots ≤ R.slots) {x : Int64} (hdg : decode cc pc = .ok (.invokestatic idx, 3)) (kk : W p l e R s m args below meth c H locs cells slots Q (F0 m (pc + 3) ls (.long (if 0 < x then x else -x) :: rest))) : W p l e R s m args below meth c H locs cells slots Q (F0 m pc ls (.long x :: rest)) :=
  va_mabs_long hE.1.1 hE.1.2.1 (hE.1.2.2.1.trans hsz.symm) hE.1.2.2.2.1 (hE.1.2.2.2.2 _ hl) (hE.1.2.2.2.2 _ wk_2_145) (hE.1.2.2.2.2 _ wk_1_5) (hE.1.2.2.2.2 _ wk_2_146) hf hlo hc hs hdg kk
/-! a method's start -/
theorem q_entM {Qc : (Nat → Prop) → Array Value → State → Outcome → State → Prop} {Av : List Value} (hy : plainName y.cls = true) (hown : y.cls = own) (hlen : (lg_sl Av).length ≤ maxL)
    (body : ∀ (p : Program) (e : Env) (s : State) (m : MethodId) (args : Array Value) (below : List Frame) (meth : Method) (c : Code) (A : Nat → Prop) (ls : Array Slot) (QQ : State → Prop), QQ = MQ below (Qc A) args s mc ms A → EV p m c cc maxL s args own D cI cJ cZ A → p.tables.exec = Jvm.exec → c.code = cc → meth.sig.returnType = ret → meth.locks = false → meth.name = y.name → A = va_A wc s.heap.size → lv_has ls maxL (lv_args 0 Av) → SS D A s wc s.heap [] →
      W p l e (rmN k mc ms) s m args below meth c s.heap [] 0 0 QQ (F0 m 0 ls [])) (sz : Nat) : Met l y (wU y cc maxL ret) (rmN k mc ms) (va_Pc Av (PcU D cI cJ cZ wc sz)) (Qc (va_A wc sz)) mc ms (va_A wc sz) := by
  refine Met.ofW (cc := cc) (maxL := maxL) (ret := ret) hy rfl ?_
  intro p e s m args below meth c s₁ B hml hv
  obtain ⟨rfl, hsz, hP, hK, hD0, hG⟩ := hv
  subst hsz
  subst hown
  have hts := atoms_spec (ws := wU y cc maxL ret) B.pre
  have hl := lv_entry Av (n := maxL) hlen
  rw [lg_entry_eq]
  generalize (lg_sl Av ++ List.replicate (maxL - (lg_sl Av).length) Slot.unset).toArray = ls at hl ⊢
  exact body p e s m _ below meth c _ ls _ rfl ⟨⟨B.exec, B.bytes, hml, findClass_of_methodNamed B.named, fun w hw => hts w (List.mem_cons_of_mem _ hw)⟩, hK, hG, fun q h => Or.inr h⟩ B.exec B.bytes B.returns B.notSynchronized (name_of_methodNamed B.named B.method).1 rfl hl ⟨hP, hD0.self, va_S.rf⟩
theorem q_entI {res : S → Int32} {F : S → Prop} {w1 : S → va_W} {Av : List Value} (hy : plainName y.cls = true) (hown : y.cls = own) (hlen : (lg_sl Av).length ≤ maxL)
    (body : ∀ (p : Program) (e : Env) (s : State) (m : MethodId) (args : Array Value) (below : List Frame) (meth : Method) (c : Code) (A : Nat → Prop) (ls : Array Slot) (QQ : State → Prop), QQ = MQ below (va_Qi (fun r u => r = res u ∧ F u) (Bd D A w1) A) args s 0 0 A → EV p m c cc maxL s args own D cI cJ cZ A → p.tables.exec = Jvm.exec → c.code = cc → meth.sig.returnType = ret → meth.locks = false → meth.name = y.name → A = va_A wc s.heap.size → lv_has ls maxL (lv_args 0 Av) → SS D A s wc s.heap [] →
      W p l e (rmN k 0 0) s m args below meth c s.heap [] 0 0 QQ (F0 m 0 ls [])) : CtI l D cI cJ cZ y cc maxL ret k Av wc res F w1 := q_entM (Qc := fun A => va_Qi (fun r u => r = res u ∧ F u) (Bd D A w1) A) hy hown hlen body
theorem q_entL {res : S → Int64} {F : S → Prop} {w1 : S → va_W} {Av : List Value} (hy : plainName y.cls = true) (hown : y.cls = own) (hlen : (lg_sl Av).length ≤ maxL)
    (body : ∀ (p : Program) (e : Env) (s : State) (m : MethodId) (args : Array Value) (below : List Frame) (meth : Method) (c : Code) (A : Nat → Prop) (ls : Array Slot) (QQ : State → Prop), QQ = MQ below (va_Ql (fun r u => r = res u ∧ F u) (Bd D A w1) A) args s 0 0 A → EV p m c cc maxL s args own D cI cJ cZ A → p.tables.exec = Jvm.exec → c.code = cc → meth.sig.returnType = ret → meth.locks = false → meth.name = y.name → A = va_A wc s.heap.size → lv_has ls maxL (lv_args 0 Av) → SS D A s wc s.heap [] →
      W p l e (rmN k 0 0) s m args below meth c s.heap [] 0 0 QQ (F0 m 0 ls [])) : CtL l D cI cJ cZ y cc maxL ret k Av wc res F w1 := q_entM (Qc := fun A => va_Ql (fun r u => r = res u ∧ F u) (Bd D A w1) A) hy hown hlen body
theorem q_entV {F : S → Prop} {w1 : S → va_W} {Av : List Value} (hy : plainName y.cls = true) (hown : y.cls = own) (hlen : (lg_sl Av).length ≤ maxL)
    (body : ∀ (p : Program) (e : Env) (s : State) (m : MethodId) (args : Array Value) (below : List Frame) (meth : Method) (c : Code) (A : Nat → Prop) (ls : Array Slot) (QQ : State → Prop), QQ = MQ below (va_Qv F (Bd D A w1) A) args s mc ms A → EV p m c cc maxL s args own D cI cJ cZ A → p.tables.exec = Jvm.exec → c.code = cc → meth.sig.returnType = ret → meth.locks = false → meth.name = y.name → A = va_A wc s.heap.size → lv_has ls maxL (lv_args 0 Av) → SS D A s wc s.heap [] →
      W p l e (rmN k mc ms) s m args below meth c s.heap [] 0 0 QQ (F0 m 0 ls [])) : CtV l D cI cJ cZ y cc maxL ret k mc ms Av wc F w1 := q_entM (Qc := fun A => va_Qv F (Bd D A w1) A) hy hown hlen body
theorem q_entR {res : S → Nat} {F : S → Prop} {w1 : S → va_W} {Av : List Value} (hy : plainName y.cls = true) (hown : y.cls = own) (hlen : (lg_sl Av).length ≤ maxL)
    (body : ∀ (p : Program) (e : Env) (s : State) (m : MethodId) (args : Array Value) (below : List Frame) (meth : Method) (c : Code) (A : Nat → Prop) (ls : Array Slot) (QQ : State → Prop), QQ = MQ below (va_Qr F (fun u a t => a = res u ∧ Bd D A w1 u t) A) args s 0 0 A → EV p m c cc maxL s args own D cI cJ cZ A → p.tables.exec = Jvm.exec → c.code = cc → meth.sig.returnType = ret → meth.locks = false → meth.name = y.name → A = va_A wc s.heap.size → lv_has ls maxL (lv_args 0 Av) → SS D A s wc s.heap [] →
      W p l e (rmN k 0 0) s m args below meth c s.heap [] 0 0 QQ (F0 m 0 ls [])) : CtR l D cI cJ cZ y cc maxL ret k Av wc res F w1 := q_entM (Qc := fun A => va_Qr F (fun u a t => a = res u ∧ Bd D A w1 u t) A) hy hown hlen body
/-! a method's end -/
theorem q_retI {res : S → Int32} {F : S → Prop} {w1 : S → va_W} (hQ : Q = MQ below (va_Qi (fun r u => r = res u ∧ F u) (Bd D A w1) A) args s cells slots A) (hE : EV p m c cc nL s args own D cI cJ cZ A) (hr : meth.sig.returnType = some .int) (hlk : meth.locks = false) (hst : SS D A s ws H locs) (u : S) {v : Int32} (hv : v = res u) (hF : F u) (hw : ws = w1 u) (hdg : decode cc pc = .ok (.ireturn, 1)) : W p l e R s m args below meth c H locs cells slots Q (F0 m pc ls [.int v]) := by
  subst hw
  subst hQ
  exact W.iret hE.1.1 hE.1.2.1 hr (fun t ht _ => ⟨⟨v, u, rfl, ⟨hv, hF⟩, by rw [ht]; exact hst.1, hst.2.1⟩, hst.2.2.F ht⟩) hst.2.2.2.2 hdg hlk
theorem q_retZ {res : S → Int32} {F : S → Prop} {w1 : S → va_W} (hQ : Q = MQ below (va_Qi (fun r u => r = res u ∧ F u) (Bd D A w1) A) args s cells slots A) (hE : EV p m c cc nL s args own D cI cJ cZ A) (hr : meth.sig.returnType = some .boolean) (hlk : meth.locks = false) (hst : SS D A s ws H locs) (u : S) {v : Int32} (hn : narrow .boolean (.int v) = .int v) (hv : v = res u) (hF : F u) (hw : ws = w1 u) (hdg : decode cc pc = .ok (.ireturn, 1)) : W p l e R s m args below meth c H locs cells slots Q (F0 m pc ls [.int v]) := by
  subst hw
  subst hQ
  exact W.zret hE.1.1 hE.1.2.1 hr hn (fun t ht _ => ⟨⟨v, u, rfl, ⟨hv, hF⟩, by rw [ht]; exact hst.1, hst.2.1⟩, hst.2.2.F ht⟩) hst.2.2.2.2 hdg hlk
theorem q_retL {res : S → Int64} {F : S → Prop} {w1 : S → va_W} (hQ : Q = MQ below (va_Ql (fun r u => r = res u ∧ F u) (Bd D A w1) A) args s cells slots A) (hE : EV p m c cc nL s args own D cI cJ cZ A) (hr : meth.sig.returnType = some .long) (hlk : meth.locks = false) (hst : SS D A s ws H locs) (u : S) {v : Int64} (hv : v = res u) (hF : F u) (hw : ws = w1 u) (hdg : decode cc pc = .ok (.lreturn, 1)) : W p l e R s m args below meth c H locs cells slots Q (F0 m pc ls [.long v]) := by
  subst hw
  subst hQ
  exact W.lret hE.1.1 hE.1.2.1 hr (fun t ht _ => ⟨⟨v, u, rfl, ⟨hv, hF⟩, by rw [ht]; exact hst.1, hst.2.1⟩, hst.2.2.F ht⟩) hst.2.2.2.2 hdg hlk
theorem q_retV {F : S → Prop} {w1 : S → va_W} (hQ : Q = MQ below (va_Qv F (Bd D A w1) A) args s cells slots A) (hE : EV p m c cc nL s args own D cI cJ cZ A) (hr : meth.sig.returnType = none) (hlk : meth.locks = false) (hst : SS D A s ws H locs) (u : S) (hF : F u) (hw : ws = w1 u) (hdg : decode cc pc = .ok (.return_, 1)) : W p l e R s m args below meth c H locs cells slots Q (F0 m pc ls []) := by
  subst hw
  subst hQ
  exact W.vret hE.1.1 hE.1.2.1 hr (fun t ht _ => ⟨⟨u, rfl, hF, by rw [ht]; exact hst.1, hst.2.1⟩, hst.2.2.F ht⟩) hst.2.2.2.2 hdg hlk
theorem q_retR {res : S → Nat} {F : S → Prop} {w1 : S → va_W} {v : Nat} {cn : String} (hQ : Q = MQ below (va_Qr F (fun u a t => a = res u ∧ Bd D A w1 u t) A) args s cells slots A) (hE : EV p m c cc nL s args own D cI cJ cZ A) (hr : meth.sig.returnType = some (.object cn)) (hlk : meth.locks = false) (hst : SS D A s ws H locs) (u : S) (hv : v = res u) (hF : F u) (hw : ws = w1 u) (hdg : decode cc pc = .ok (.areturn, 1)) : W p l e R s m args below meth c H locs cells slots Q (F0 m pc ls [.ref v]) := by
  subst hw
  subst hQ
  exact W.aret hE.1.1 hE.1.2.1 hr (Or.inl ⟨_, rfl⟩) (Or.inr ⟨_, rfl⟩) (fun t ht _ => ⟨⟨u, v, rfl, hF, hv, by rw [ht]; exact hst.1, hst.2.1⟩, hst.2.2.F ht⟩) hst.2.2.2.2 hdg hlk
theorem q_top {x x' : Int32} (h : x = x') (k : W p l e R s m args below meth c H locs cells slots Q (F0 m pc ls (.int x' :: rest))) : W p l e R s m args below meth c H locs cells slots Q (F0 m pc ls (.int x :: rest)) := by rw [h]; exact k
theorem q_topL {x x' : Int64} (h : x = x') (k : W p l e R s m args below meth c H locs cells slots Q (F0 m pc ls (.long x' :: rest))) : W p l e R s m args below meth c H locs cells slots Q (F0 m pc ls (.long x :: rest)) := by rw [h]; exact k
theorem q_arr (hst : SS D A s ws H locs) (q0 : Nat) {cA : ClassId} {N : Nat} {f g : Nat → Int32} (ha : ws[q0]? = some (a, .inl (cA, N, .inl f))) (hfg : ∀ j, j < N → f j = g j) (ws' : va_W) (hws : ws.set q0 (a, .inl (cA, N, .inl g)) = ws') : SS D A s ws' H locs := by
  subst hws
  refine ⟨hst.1.set hst.2.1 ha ?_ (fun _ _ => rfl), hst.2.1.set ha, hst.2.2⟩
  have h1 : H[a]? = some (vp_cell cA (N, .inl f)) := hst.1 q0 _ ha
  show H[a]? = some (vp_cell cA (N, .inl g))
  rw [h1]
  congr 1
  rw [vp_cell_i, vp_cell_i]
  unfold arrV
  congr 1
  apply Array.ext_getElem?
  intro i
  by_cases hi : i < N
  · simp [Array.getElem?_ofFn, hi, hfg i hi]
  · simp [Array.getElem?_ofFn, hi]
theorem q_arrL (hst : SS D A s ws H locs) (q0 : Nat) {cA : ClassId} {N : Nat} {f g : Nat → Int64} (ha : ws[q0]? = some (a, .inl (cA, N, .inr (.inl f)))) (hfg : ∀ j, j < N → f j = g j) (ws' : va_W) (hws : ws.set q0 (a, .inl (cA, N, .inr (.inl g))) = ws') : SS D A s ws' H locs := by
  subst hws
  refine ⟨hst.1.set hst.2.1 ha ?_ (fun _ _ => rfl), hst.2.1.set ha, hst.2.2⟩
  have h1 : H[a]? = some (vp_cell cA (N, .inr (.inl f))) := hst.1 q0 _ ha
  show H[a]? = some (vp_cell cA (N, .inr (.inl g)))
  rw [h1]
  congr 1
  rw [vp_cell_l, vp_cell_l]
  unfold arrV
  congr 1
  apply Array.ext_getElem?
  intro i
  by_cases hi : i < N
  · simp [Array.getElem?_ofFn, hi, hfg i hi]
  · simp [Array.getElem?_ofFn, hi]
end QK
/-! answers that are truth values -/
def b2i (b : Bool) : Int32 := if b = true then 1 else 0
theorem b2i_nar (b : Bool) : narrow .boolean (.int (b2i b)) = .int (b2i b) := by cases b <;> rfl
theorem b2i_eq0 {b : Bool} : b2i b = 0 ↔ b = false := by cases b <;> decide
theorem b2i_f {b : Bool} (h : b2i b = 0) : b = false := b2i_eq0.mp h
theorem b2i_t {b : Bool} (h : ¬ b2i b = 0) : b = true := by
  cases b with
  | false => exact absurd rfl h
  | true => rfl
theorem b2i_1 : b2i true = 1 := rfl
theorem b2i_0 : b2i false = 0 := rfl
theorem b2i_fits (b : Bool) : fits .boolean (.int (b2i b)) = true := by cases b <;> rfl
theorem lc_eq {x y : Int64} : lg_cmp x y = 0 ↔ x = y := by
  unfold lg_cmp
  by_cases h : y < x
  · rw [if_pos h]
    exact ⟨fun z => absurd z (by decide), fun z => (Int64.lt_irrefl (z ▸ h)).elim⟩
  · rw [if_neg h]
    by_cases h2 : x = y
    · rw [if_pos h2]; exact ⟨fun _ => h2, fun _ => rfl⟩
    · rw [if_neg h2]; exact ⟨fun z => absurd z (by decide), fun z => absurd z h2⟩
theorem lc_gt {x y : Int64} : 0 < lg_cmp x y ↔ y < x := by
  unfold lg_cmp
  by_cases h : y < x
  · rw [if_pos h]
    exact ⟨fun _ => h, fun _ => by decide⟩
  · rw [if_neg h]
    by_cases h2 : x = y
    · rw [if_pos h2]; exact ⟨fun z => absurd z (by decide), fun z => absurd z h⟩
    · rw [if_neg h2]; exact ⟨fun z => absurd z (by decide), fun z => absurd z h⟩
theorem lc_le {x y : Int64} : lg_cmp x y ≤ 0 ↔ x ≤ y := by
  rw [← Int32.not_lt, lc_gt, Int64.not_lt]
theorem lc_lt {x y : Int64} : lg_cmp x y < 0 ↔ x < y := by
  unfold lg_cmp
  by_cases h : y < x
  · rw [if_pos h]
    exact ⟨fun z => absurd z (by decide), fun z => (Int64.lt_irrefl (Int64.lt_trans z h)).elim⟩
  · rw [if_neg h]
    by_cases h2 : x = y
    · rw [if_pos h2]; exact ⟨fun z => absurd z (by decide), fun z => (Int64.lt_irrefl (h2 ▸ z)).elim⟩
    · rw [if_neg h2]; exact ⟨fun _ => Int64.lt_of_le_of_ne (Int64.not_lt.mp h) h2, fun _ => by decide⟩
theorem lc_ge {x y : Int64} : 0 ≤ lg_cmp x y ↔ y ≤ x := by
  rw [← Int32.not_lt, lc_lt, Int64.not_lt]
theorem nI_next (k : Nat) : nI k + Int32.ofInt 1 = nI (k + 1) := nI_1 k
end
section
theorem lk_L_9 : LkI RL 9 yX6_init cX6_init 1 0 := ⟨wk_1_15, wk_1_16, rfl, wk_1_1, wk_1_17, ⟨by decide +kernel, by decide +kernel, by decide +kernel⟩⟩
theorem lk_X6_9 : LkNI RX6 9 yX5_init RX6 cX5_init 1 0 := ⟨wk_1_23, wk_1_24, rfl, wk_1_2, wk_1_25, ⟨by decide +kernel, by decide +kernel, by decide +kernel⟩⟩
theorem lk_X6_18 : LkNI RX6 18 yX1_init RX6 cX1_init 1 0 := ⟨wk_1_50, wk_1_51, rfl, wk_1_3, wk_1_52, ⟨by decide +kernel, by decide +kernel, by decide +kernel⟩⟩
theorem lk_X1_11 : LkNI RX1 11 yX0_init RX6 cX0_init 1 0 := ⟨wk_1_56, wk_1_57, rfl, wk_1_4, wk_1_58, ⟨by decide +kernel, by decide +kernel, by decide +kernel⟩⟩
theorem lk_X0_45 : LkV RX0 45 yX0_draw cX0_draw 1 none 0 := ⟨wk_1_60, wk_1_62, wk_p0, wk_1_4, wk_1_63, ⟨by decide +kernel, by decide +kernel, by decide +kernel⟩⟩
theorem lk_X0_52 : LkV RX0 52 yX0_layDays cX0_layDays 2 none 0 := ⟨wk_1_64, wk_1_66, wk_p1, wk_1_4, wk_1_67, ⟨by decide +kernel, by decide +kernel, by decide +kernel⟩⟩
theorem lk_X0_67 : LkNS RX0 67 yX6_put RX6 cX6_put 3 none 3 := ⟨wk_1_68, wk_1_69, wk_1_1, wk_1_70, ⟨by decide +kernel, by decide +kernel, by decide +kernel⟩⟩
theorem lk_X0_55 : LkV RX0 55 yX0_shakeRow cX0_shakeRow 4 none 0 := ⟨wk_1_71, wk_1_73, wk_p2, wk_1_4, wk_1_74, ⟨by decide +kernel, by decide +kernel, by decide +kernel⟩⟩
theorem lk_X0_71 : LkV RX0 71 yX0_lot cX0_lot 2 (some .int) 1 := ⟨wk_1_75, wk_1_77, wk_p3, wk_1_4, wk_1_78, ⟨by decide +kernel, by decide +kernel, by decide +kernel⟩⟩
theorem lk_X0_84 : LkV RX0 84 yX0_swap cX0_swap 4 none 2 := ⟨wk_1_88, wk_1_90, wk_p4, wk_1_4, wk_1_91, ⟨by decide +kernel, by decide +kernel, by decide +kernel⟩⟩
theorem lk_X0_88 : LkNS RX0 88 yX6_at RX6 cX6_at 2 (some .int) 2 := ⟨wk_1_92, wk_1_93, wk_1_1, wk_1_94, ⟨by decide +kernel, by decide +kernel, by decide +kernel⟩⟩
theorem lk_X0_58 : LkV RX0 58 yX0_turnRow cX0_turnRow 2 none 0 := ⟨wk_1_95, wk_1_97, wk_p5, wk_1_4, wk_1_98, ⟨by decide +kernel, by decide +kernel, by decide +kernel⟩⟩
theorem lk_X0_61 : LkV RX0 61 yX0_drawRow cX0_drawRow 6 none 0 := ⟨wk_1_99, wk_1_101, wk_p6, wk_1_4, wk_1_102, ⟨by decide +kernel, by decide +kernel, by decide +kernel⟩⟩
theorem lk_X0_92 : LkV RX0 92 yX0_closeGap cX0_closeGap 3 none 2 := ⟨wk_1_103, wk_1_105, wk_p7, wk_1_4, wk_1_106, ⟨by decide +kernel, by decide +kernel, by decide +kernel⟩⟩
theorem lk_X1_23 : LkNI RX1 23 yX2_init RX6 cX2_init 1 0 := ⟨wk_1_144, wk_1_145, rfl, wk_1_7, wk_1_146, ⟨by decide +kernel, by decide +kernel, by decide +kernel⟩⟩
theorem lk_X1_49 : LkNI RX1 49 yX4_init RX6 cX4_init 1 0 := ⟨wk_1_174, wk_1_175, rfl, wk_1_8, wk_1_176, ⟨by decide +kernel, by decide +kernel, by decide +kernel⟩⟩
theorem lk_X1_56 : LkNI RX1 56 yX3_init RX6 cX3_init 1 0 := ⟨wk_1_193, wk_1_194, rfl, wk_1_9, wk_1_195, ⟨by decide +kernel, by decide +kernel, by decide +kernel⟩⟩
theorem lk_X6_36 : LkNI RX6 36 yX3_init RX6 cX3_init 1 0 := ⟨wk_1_236, wk_1_194, rfl, wk_1_9, wk_1_195, ⟨by decide +kernel, by decide +kernel, by decide +kernel⟩⟩
theorem lk_L_15 : LkV RL 15 yX6_feed cX6_feed 5 (some .int) 2 := ⟨wk_2_16, wk_2_17, wk_2_18, wk_1_1, wk_2_19, ⟨by decide +kernel, by decide +kernel, by decide +kernel⟩⟩
theorem lk_X6_41 : LkNV RX6 41 yX5_hasRoomFor RX6 cX5_hasRoomFor 2 (some .boolean) 1 := ⟨wk_2_20, wk_2_22, wk_p8, wk_1_2, wk_2_23, ⟨by decide +kernel, by decide +kernel, by decide +kernel⟩⟩
theorem lk_X6_45 : LkS RX6 45 yX6_firstThatFits cX6_firstThatFits 4 (some .int) 4 := ⟨wk_2_24, wk_2_25, wk_1_1, wk_2_26, ⟨by decide +kernel, by decide +kernel, by decide +kernel⟩⟩
theorem lk_X6_49 : LkV RX6 49 yX6_refuse cX6_refuse 2 (some .int) 1 := ⟨wk_2_27, wk_2_29, wk_p9, wk_1_1, wk_2_30, ⟨by decide +kernel, by decide +kernel, by decide +kernel⟩⟩
theorem lk_X6_164 : LkS RX6 164 yX6_at cX6_at 2 (some .int) 2 := ⟨wk_2_31, wk_1_93, wk_1_1, wk_1_94, ⟨by decide +kernel, by decide +kernel, by decide +kernel⟩⟩
theorem lk_X6_171 : LkS RX6 171 yX6_put cX6_put 3 none 3 := ⟨wk_2_32, wk_1_69, wk_1_1, wk_1_70, ⟨by decide +kernel, by decide +kernel, by decide +kernel⟩⟩
theorem lk_X6_53 : LkNV RX6 53 yX5_append RX6 cX5_append 5 none 2 := ⟨wk_2_33, wk_2_35, wk_p10, wk_1_2, wk_2_36, ⟨by decide +kernel, by decide +kernel, by decide +kernel⟩⟩
theorem lk_X5_28 : LkNS RX5 28 yX6_put RX6 cX6_put 3 none 3 := ⟨wk_2_37, wk_1_69, wk_1_1, wk_1_70, ⟨by decide +kernel, by decide +kernel, by decide +kernel⟩⟩
theorem lk_L_20 : LkV RL 20 yX6_man cX6_man 2 (some .int) 0 := ⟨wk_2_38, wk_2_39, wk_2_40, wk_1_1, wk_2_41, ⟨by decide +kernel, by decide +kernel, by decide +kernel⟩⟩
theorem lk_X6_70 : LkNV RX6 70 yX5_read RX6 cX5_read 4 (some .int) 0 := ⟨wk_2_42, wk_2_44, wk_p11, wk_1_2, wk_2_45, ⟨by decide +kernel, by decide +kernel, by decide +kernel⟩⟩
theorem lk_X5_32 : LkV RX5 32 yX5_byteAt cX5_byteAt 2 (some .int) 1 := ⟨wk_2_46, wk_2_48, wk_p12, wk_1_2, wk_2_49, ⟨by decide +kernel, by decide +kernel, by decide +kernel⟩⟩
theorem lk_X5_46 : LkNS RX5 46 yX6_at RX6 cX6_at 2 (some .int) 2 := ⟨wk_2_50, wk_1_93, wk_1_1, wk_1_94, ⟨by decide +kernel, by decide +kernel, by decide +kernel⟩⟩
theorem lk_X5_36 : LkS RX5 36 yX5_kindOfLetter cX5_kindOfLetter 1 (some .int) 1 := ⟨wk_2_51, wk_2_52, wk_1_2, wk_2_53, ⟨by decide +kernel, by decide +kernel, by decide +kernel⟩⟩
theorem lk_X5_39 : LkV RX5 39 yX5_endOfDigits cX5_endOfDigits 4 (some .int) 2 := ⟨wk_2_54, wk_2_56, wk_p13, wk_1_2, wk_2_57, ⟨by decide +kernel, by decide +kernel, by decide +kernel⟩⟩
theorem lk_X5_50 : LkV RX5 50 yX5_isDigit cX5_isDigit 2 (some .boolean) 1 := ⟨wk_2_58, wk_2_60, wk_p14, wk_1_2, wk_2_61, ⟨by decide +kernel, by decide +kernel, by decide +kernel⟩⟩
theorem lk_X5_43 : LkV RX5 43 yX5_valueOf cX5_valueOf 5 (some .int) 2 := ⟨wk_2_62, wk_2_64, wk_p15, wk_1_2, wk_2_65, ⟨by decide +kernel, by decide +kernel, by decide +kernel⟩⟩
theorem lk_X6_74 : LkNV RX6 74 yX5_empty RX6 cX5_empty 1 none 0 := ⟨wk_2_66, wk_2_68, wk_p16, wk_1_2, wk_2_69, ⟨by decide +kernel, by decide +kernel, by decide +kernel⟩⟩
theorem lk_X6_86 : LkNV RX6 86 yX2_enrol RX6 cX2_enrol 5 (some .int) 3 := ⟨wk_2_70, wk_2_72, wk_p17, wk_1_7, wk_2_73, ⟨by decide +kernel, by decide +kernel, by decide +kernel⟩⟩
theorem lk_X2_25 : LkNS RX2 25 yX6_put RX6 cX6_put 3 none 3 := ⟨wk_2_74, wk_1_69, wk_1_1, wk_1_70, ⟨by decide +kernel, by decide +kernel, by decide +kernel⟩⟩
theorem lk_L_25 : LkV RL 25 yX6_jar cX6_jar 7 (some .int) 5 := ⟨wk_2_75, wk_2_76, wk_2_77, wk_1_1, wk_2_78, ⟨by decide +kernel, by decide +kernel, by decide +kernel⟩⟩
theorem lk_X6_90 : LkS RX6 90 yX6_isJar cX6_isJar 1 (some .boolean) 1 := ⟨wk_2_79, wk_2_80, wk_1_1, wk_2_81, ⟨by decide +kernel, by decide +kernel, by decide +kernel⟩⟩
theorem lk_X6_93 : LkNV RX6 93 yX1_jarAt RX6 cX1_jarAt 2 (some (.object "GlassJar$Jar")) 1 := ⟨wk_2_82, wk_2_84, wk_p18, wk_1_3, wk_2_85, ⟨by decide +kernel, by decide +kernel, by decide +kernel⟩⟩
theorem lk_X6_97 : LkNV RX6 97 yX0_prepare RX6 cX0_prepare 5 none 4 := ⟨wk_2_86, wk_2_88, wk_p19, wk_1_4, wk_2_89, ⟨by decide +kernel, by decide +kernel, by decide +kernel⟩⟩
theorem lk_L_30 : LkV RL 30 yX6_pour cX6_pour 3 (some .int) 2 := ⟨wk_2_90, wk_2_91, wk_2_92, wk_1_1, wk_2_93, ⟨by decide +kernel, by decide +kernel, by decide +kernel⟩⟩
theorem lk_X6_103 : LkNV RX6 103 yX0_turnOver RX6 cX0_turnOver 2 (some .boolean) 1 := ⟨wk_2_94, wk_2_96, wk_p20, wk_1_4, wk_2_97, ⟨by decide +kernel, by decide +kernel, by decide +kernel⟩⟩
theorem lk_L_35 : LkV RL 35 yX6_number cX6_number 3 (some .int) 2 := ⟨wk_2_98, wk_2_99, wk_2_100, wk_1_1, wk_2_101, ⟨by decide +kernel, by decide +kernel, by decide +kernel⟩⟩
theorem lk_X6_107 : LkNV RX6 107 yX0_numberAt RX6 cX0_numberAt 2 (some .int) 1 := ⟨wk_2_102, wk_2_104, wk_p21, wk_1_4, wk_2_105, ⟨by decide +kernel, by decide +kernel, by decide +kernel⟩⟩
theorem lk_L_40 : LkV RL 40 yX6_dayOf cX6_dayOf 4 (some .int) 2 := ⟨wk_2_106, wk_2_107, wk_2_108, wk_1_1, wk_2_109, ⟨by decide +kernel, by decide +kernel, by decide +kernel⟩⟩
theorem lk_X6_110 : LkNV RX6 110 yX0_dayAt RX6 cX0_dayAt 2 (some .int) 1 := ⟨wk_2_110, wk_2_112, wk_p22, wk_1_4, wk_2_113, ⟨by decide +kernel, by decide +kernel, by decide +kernel⟩⟩
theorem lk_L_44 : LkV RL 44 yX6_mean cX6_mean 5 (some .long) 3 := ⟨wk_2_114, wk_2_115, wk_2_116, wk_1_1, wk_2_117, ⟨by decide +kernel, by decide +kernel, by decide +kernel⟩⟩
theorem lk_X6_113 : LkS RX6 113 yX6_isMonth cX6_isMonth 1 (some .boolean) 1 := ⟨wk_2_118, wk_2_119, wk_1_1, wk_2_120, ⟨by decide +kernel, by decide +kernel, by decide +kernel⟩⟩
theorem lk_X6_116 : LkS RX6 116 yX6_isPart cX6_isPart 1 (some .boolean) 1 := ⟨wk_2_121, wk_2_122, wk_1_1, wk_2_123, ⟨by decide +kernel, by decide +kernel, by decide +kernel⟩⟩
theorem lk_X6_119 : LkV RX6 119 yX6_refuseLong cX6_refuseLong 2 (some .long) 1 := ⟨wk_2_124, wk_2_126, wk_p23, wk_1_1, wk_2_127, ⟨by decide +kernel, by decide +kernel, by decide +kernel⟩⟩
theorem lk_X6_123 : LkNV RX6 123 yX0_monthSum RX6 cX0_monthSum 4 (some .int) 1 := ⟨wk_2_129, wk_2_131, wk_p24, wk_1_4, wk_2_132, ⟨by decide +kernel, by decide +kernel, by decide +kernel⟩⟩
theorem lk_X0_104 : LkV RX0 104 yX0_numberAt cX0_numberAt 2 (some .int) 1 := ⟨wk_2_135, wk_2_104, wk_p21, wk_1_4, wk_2_105, ⟨by decide +kernel, by decide +kernel, by decide +kernel⟩⟩
theorem lk_X6_126 : LkS RX6 126 yX6_monthLength cX6_monthLength 1 (some .int) 1 := ⟨wk_2_136, wk_2_137, wk_1_1, wk_2_138, ⟨by decide +kernel, by decide +kernel, by decide +kernel⟩⟩
theorem lk_X6_129 : LkNV RX6 129 yX3_become RX6 cX3_become 9 none 2 := ⟨wk_2_140, wk_2_142, wk_p25, wk_1_9, wk_2_143, ⟨by decide +kernel, by decide +kernel, by decide +kernel⟩⟩
theorem lk_X3_22 : LkS RX3 22 yX3_commonDivisor cX3_commonDivisor 11 (some .long) 2 := ⟨wk_2_147, wk_2_148, wk_1_9, wk_2_149, ⟨by decide +kernel, by decide +kernel, by decide +kernel⟩⟩
theorem lk_X6_133 : LkNV RX6 133 yX3_partAt RX6 cX3_partAt 2 (some .long) 1 := ⟨wk_2_151, wk_2_153, wk_p26, wk_1_9, wk_2_154, ⟨by decide +kernel, by decide +kernel, by decide +kernel⟩⟩
theorem lk_L_49 : LkV RL 49 yX6_lean cX6_lean 2 (some .long) 1 := ⟨wk_2_155, wk_2_156, wk_2_157, wk_1_1, wk_2_158, ⟨by decide +kernel, by decide +kernel, by decide +kernel⟩⟩
theorem lk_X6_136 : LkNV RX6 136 yX0_leaning RX6 cX0_leaning 4 (some .long) 0 := ⟨wk_2_159, wk_2_161, wk_p27, wk_1_4, wk_2_162, ⟨by decide +kernel, by decide +kernel, by decide +kernel⟩⟩
theorem lk_L_54 : LkV RL 54 yX6_worst cX6_worst 2 (some .int) 1 := ⟨wk_2_166, wk_2_167, wk_2_168, wk_1_1, wk_2_169, ⟨by decide +kernel, by decide +kernel, by decide +kernel⟩⟩
theorem lk_X6_140 : LkNV RX6 140 yX0_worstMonth RX6 cX0_worstMonth 3 (some .int) 0 := ⟨wk_2_170, wk_2_172, wk_p28, wk_1_4, wk_2_173, ⟨by decide +kernel, by decide +kernel, by decide +kernel⟩⟩
theorem lk_X0_113 : LkV RX0 113 yX0_monthDistance cX0_monthDistance 2 (some .long) 1 := ⟨wk_2_174, wk_2_176, wk_p29, wk_1_4, wk_2_177, ⟨by decide +kernel, by decide +kernel, by decide +kernel⟩⟩
theorem lk_X0_120 : LkV RX0 120 yX0_monthSum cX0_monthSum 4 (some .int) 1 := ⟨wk_2_178, wk_2_131, wk_p24, wk_1_4, wk_2_132, ⟨by decide +kernel, by decide +kernel, by decide +kernel⟩⟩
theorem lk_X0_117 : LkNS RX0 117 yX6_monthLength RX6 cX6_monthLength 1 (some .int) 1 := ⟨wk_2_179, wk_2_137, wk_1_1, wk_2_138, ⟨by decide +kernel, by decide +kernel, by decide +kernel⟩⟩
theorem lk_L_59 : LkV RL 59 yX6_turned cX6_turned 2 (some .int) 1 := ⟨wk_2_181, wk_2_182, wk_2_183, wk_1_1, wk_2_184, ⟨by decide +kernel, by decide +kernel, by decide +kernel⟩⟩
theorem lk_X6_143 : LkNV RX6 143 yX0_turnedPairs RX6 cX0_turnedPairs 4 (some .int) 0 := ⟨wk_2_185, wk_2_187, wk_p30, wk_1_4, wk_2_188, ⟨by decide +kernel, by decide +kernel, by decide +kernel⟩⟩
theorem lk_X0_127 : LkS RX0 127 yJ7_fill_d0a16 cJ7_fill_d0a16 5 none 2 := ⟨wk_2_189, wk_2_190, wk_1_11, wk_2_191, ⟨by decide +kernel, by decide +kernel, by decide +kernel⟩⟩
theorem lk_X0_133 : LkV RX0 133 yX0_seenAbove cX0_seenAbove 5 (some .int) 1 := ⟨wk_2_192, wk_2_194, wk_p31, wk_1_4, wk_2_195, ⟨by decide +kernel, by decide +kernel, by decide +kernel⟩⟩
theorem lk_X0_140 : LkS RX0 140 yJ13_bitCount_95d88 cJ13_bitCount_95d88 2 (some .int) 1 := ⟨wk_2_196, wk_2_197, wk_1_12, wk_2_198, ⟨by decide +kernel, by decide +kernel, by decide +kernel⟩⟩
theorem lk_X0_136 : LkV RX0 136 yX0_markSeen cX0_markSeen 3 none 1 := ⟨wk_2_202, wk_2_204, wk_p32, wk_1_4, wk_2_205, ⟨by decide +kernel, by decide +kernel, by decide +kernel⟩⟩
theorem lk_L_63 : LkV RL 63 yX6_manOf cX6_manOf 4 (some .int) 2 := ⟨wk_2_206, wk_2_207, wk_2_208, wk_1_1, wk_2_209, ⟨by decide +kernel, by decide +kernel, by decide +kernel⟩⟩
theorem lk_X6_146 : LkV RX6 146 yX6_isMan cX6_isMan 2 (some .boolean) 1 := ⟨wk_2_210, wk_2_212, wk_p33, wk_1_1, wk_2_213, ⟨by decide +kernel, by decide +kernel, by decide +kernel⟩⟩
theorem lk_X6_149 : LkNV RX6 149 yX2_kindAt RX6 cX2_kindAt 2 (some .int) 1 := ⟨wk_2_214, wk_2_216, wk_p34, wk_1_7, wk_2_217, ⟨by decide +kernel, by decide +kernel, by decide +kernel⟩⟩
theorem lk_X2_33 : LkNS RX2 33 yX6_at RX6 cX6_at 2 (some .int) 2 := ⟨wk_2_218, wk_1_93, wk_1_1, wk_1_94, ⟨by decide +kernel, by decide +kernel, by decide +kernel⟩⟩
theorem lk_X6_152 : LkNV RX6 152 yX2_birthdayAt RX6 cX2_birthdayAt 2 (some .int) 1 := ⟨wk_2_219, wk_2_221, wk_p35, wk_1_7, wk_2_222, ⟨by decide +kernel, by decide +kernel, by decide +kernel⟩⟩
theorem lk_X6_155 : LkNV RX6 155 yX2_payAt RX6 cX2_payAt 2 (some .int) 1 := ⟨wk_2_223, wk_2_225, wk_p36, wk_1_7, wk_2_226, ⟨by decide +kernel, by decide +kernel, by decide +kernel⟩⟩
theorem lk_L_67 : LkV RL 67 yX6_cut cX6_cut 4 (some .int) 1 := ⟨wk_2_227, wk_2_228, wk_2_229, wk_1_1, wk_2_230, ⟨by decide +kernel, by decide +kernel, by decide +kernel⟩⟩
theorem lk_L_71 : LkV RL 71 yX6_law cX6_law 6 (some .int) 2 := ⟨wk_2_231, wk_2_232, wk_2_233, wk_1_1, wk_2_234, ⟨by decide +kernel, by decide +kernel, by decide +kernel⟩⟩
theorem lk_L_75 : LkV RL 75 yX6_called cX6_called 3 (some .int) 2 := ⟨wk_2_237, wk_2_238, wk_2_239, wk_1_1, wk_3_0, ⟨by decide +kernel, by decide +kernel, by decide +kernel⟩⟩
theorem lk_X6_175 : LkNV RX6 175 yX1_isCalledBy RX6 cX1_isCalledBy 3 (some .boolean) 2 := ⟨wk_3_1, wk_3_3, wk_p37, wk_1_3, wk_3_4, ⟨by decide +kernel, by decide +kernel, by decide +kernel⟩⟩
theorem lk_X1_80 : LkV RX1 80 yX1_numberOfMan cX1_numberOfMan 3 (some .int) 2 := ⟨wk_3_5, wk_3_7, wk_p38, wk_1_3, wk_3_8, ⟨by decide +kernel, by decide +kernel, by decide +kernel⟩⟩
theorem lk_X1_73 : LkNV RX1 73 yX2_birthdayAt RX6 cX2_birthdayAt 2 (some .int) 1 := ⟨wk_3_9, wk_2_221, wk_p35, wk_1_7, wk_2_222, ⟨by decide +kernel, by decide +kernel, by decide +kernel⟩⟩
theorem lk_X1_77 : LkNV RX1 77 yX0_numberAt RX6 cX0_numberAt 2 (some .int) 1 := ⟨wk_3_10, wk_2_104, wk_p21, wk_1_4, wk_2_105, ⟨by decide +kernel, by decide +kernel, by decide +kernel⟩⟩
theorem lk_X1_84 : LkV RX1 84 yX1_isCalled cX1_isCalled 2 (some .boolean) 1 := ⟨wk_3_11, wk_3_13, wk_p39, wk_1_3, wk_3_14, ⟨by decide +kernel, by decide +kernel, by decide +kernel⟩⟩
theorem lk_L_79 : LkV RL 79 yX6_served cX6_served 3 (some .int) 2 := ⟨wk_3_15, wk_3_16, wk_3_17, wk_1_1, wk_3_18, ⟨by decide +kernel, by decide +kernel, by decide +kernel⟩⟩
theorem lk_X6_179 : LkNV RX6 179 yX1_serviceOf RX6 cX1_serviceOf 3 (some .int) 2 := ⟨wk_3_19, wk_3_21, wk_p40, wk_1_3, wk_3_22, ⟨by decide +kernel, by decide +kernel, by decide +kernel⟩⟩
theorem lk_X1_88 : LkNV RX1 88 yX2_kindAt RX6 cX2_kindAt 2 (some .int) 1 := ⟨wk_3_23, wk_2_216, wk_p34, wk_1_7, wk_2_217, ⟨by decide +kernel, by decide +kernel, by decide +kernel⟩⟩
theorem lk_X1_91 : LkV RX1 91 yX1_serviceBy cX1_serviceBy 4 (some .int) 2 := ⟨wk_3_24, wk_3_26, wk_p41, wk_1_3, wk_3_27, ⟨by decide +kernel, by decide +kernel, by decide +kernel⟩⟩
theorem lk_X1_95 : LkS RX1 95 yX1_isEven cX1_isEven 1 (some .boolean) 1 := ⟨wk_3_28, wk_3_29, wk_1_3, wk_3_30, ⟨by decide +kernel, by decide +kernel, by decide +kernel⟩⟩
theorem lk_L_83 : LkV RL 83 yX6_wage cX6_wage 5 (some .long) 3 := ⟨wk_3_31, wk_3_32, wk_3_33, wk_1_1, wk_3_34, ⟨by decide +kernel, by decide +kernel, by decide +kernel⟩⟩
theorem lk_X6_183 : LkNV RX6 183 yX1_wageOf RX6 cX1_wageOf 7 (some .int) 3 := ⟨wk_3_35, wk_3_37, wk_p42, wk_1_3, wk_3_38, ⟨by decide +kernel, by decide +kernel, by decide +kernel⟩⟩
theorem lk_X1_117 : LkNV RX1 117 yX2_payAt RX6 cX2_payAt 2 (some .int) 1 := ⟨wk_3_39, wk_2_225, wk_p36, wk_1_7, wk_2_226, ⟨by decide +kernel, by decide +kernel, by decide +kernel⟩⟩
theorem lk_X1_105 : LkNS RX1 105 yX6_at RX6 cX6_at 2 (some .int) 2 := ⟨wk_3_40, wk_1_93, wk_1_1, wk_1_94, ⟨by decide +kernel, by decide +kernel, by decide +kernel⟩⟩
theorem lk_X1_120 : LkV RX1 120 yX1_changeByService cX1_changeByService 3 (some .int) 2 := ⟨wk_3_41, wk_3_43, wk_p43, wk_1_3, wk_3_44, ⟨by decide +kernel, by decide +kernel, by decide +kernel⟩⟩
theorem lk_X1_114 : LkV RX1 114 yX1_lossLeft cX1_lossLeft 2 (some .int) 1 := ⟨wk_3_45, wk_3_47, wk_p44, wk_1_3, wk_3_48, ⟨by decide +kernel, by decide +kernel, by decide +kernel⟩⟩
theorem lk_L_87 : LkV RL 87 yX6_does cX6_does 5 (some .long) 3 := ⟨wk_3_50, wk_3_51, wk_3_52, wk_1_1, wk_3_53, ⟨by decide +kernel, by decide +kernel, by decide +kernel⟩⟩
theorem lk_X6_187 : LkNV RX6 187 yX1_findDoes RX6 cX1_findDoes 5 (some .boolean) 3 := ⟨wk_3_54, wk_3_56, wk_p45, wk_1_3, wk_3_57, ⟨by decide +kernel, by decide +kernel, by decide +kernel⟩⟩
theorem lk_X1_123 : LkNV RX1 123 yX4_clear RX6 cX4_clear 1 none 0 := ⟨wk_3_58, wk_3_60, wk_p46, wk_1_8, wk_3_61, ⟨by decide +kernel, by decide +kernel, by decide +kernel⟩⟩
theorem lk_X1_126 : LkV RX1 126 yX1_isCalledBy cX1_isCalledBy 3 (some .boolean) 2 := ⟨wk_3_62, wk_3_3, wk_p37, wk_1_3, wk_3_4, ⟨by decide +kernel, by decide +kernel, by decide +kernel⟩⟩
theorem lk_X1_130 : LkV RX1 130 yX1_wageOf cX1_wageOf 7 (some .int) 3 := ⟨wk_3_63, wk_3_37, wk_p42, wk_1_3, wk_3_38, ⟨by decide +kernel, by decide +kernel, by decide +kernel⟩⟩
theorem lk_X1_134 : LkNV RX1 134 yX4_enter RX6 cX4_enter 4 none 2 := ⟨wk_3_64, wk_3_66, wk_p47, wk_1_8, wk_3_67, ⟨by decide +kernel, by decide +kernel, by decide +kernel⟩⟩
theorem lk_X1_138 : LkNV RX1 138 yX4_findGap RX6 cX4_findGap 2 (some .boolean) 1 := ⟨wk_3_68, wk_3_70, wk_p48, wk_1_8, wk_3_71, ⟨by decide +kernel, by decide +kernel, by decide +kernel⟩⟩
theorem lk_X4_23 : LkNV RX4 23 yX3_become RX6 cX3_become 9 none 2 := ⟨wk_3_72, wk_2_142, wk_p25, wk_1_9, wk_2_143, ⟨by decide +kernel, by decide +kernel, by decide +kernel⟩⟩
theorem lk_X6_191 : LkV RX6 191 yX6_partOrNone cX6_partOrNone 3 (some .long) 2 := ⟨wk_3_73, wk_3_75, wk_p49, wk_1_1, wk_3_76, ⟨by decide +kernel, by decide +kernel, by decide +kernel⟩⟩
theorem lk_L_91 : LkV RL 91 yX6_share cX6_share 4 (some .long) 2 := ⟨wk_3_77, wk_3_78, wk_3_79, wk_1_1, wk_3_80, ⟨by decide +kernel, by decide +kernel, by decide +kernel⟩⟩
theorem lk_X6_195 : LkNV RX6 195 yX1_findShare RX6 cX1_findShare 5 (some .boolean) 2 := ⟨wk_3_81, wk_3_83, wk_p50, wk_1_3, wk_3_84, ⟨by decide +kernel, by decide +kernel, by decide +kernel⟩⟩
theorem lk_X1_101 : LkV RX1 101 yX1_hasServed cX1_hasServed 4 (some .boolean) 2 := ⟨wk_3_85, wk_3_87, wk_p51, wk_1_3, wk_3_88, ⟨by decide +kernel, by decide +kernel, by decide +kernel⟩⟩
theorem lk_L_96 : LkV RL 96 yX6_serving cX6_serving 5 (some .long) 3 := ⟨wk_3_89, wk_3_90, wk_3_91, wk_1_1, wk_3_92, ⟨by decide +kernel, by decide +kernel, by decide +kernel⟩⟩
theorem lk_X6_199 : LkNV RX6 199 yX1_findServing RX6 cX1_findServing 4 (some .boolean) 3 := ⟨wk_3_93, wk_3_95, wk_p52, wk_1_3, wk_3_96, ⟨by decide +kernel, by decide +kernel, by decide +kernel⟩⟩
theorem lk_X1_142 : LkV RX1 142 yX1_findShare cX1_findShare 5 (some .boolean) 2 := ⟨wk_3_97, wk_3_83, wk_p50, wk_1_3, wk_3_84, ⟨by decide +kernel, by decide +kernel, by decide +kernel⟩⟩
theorem lk_X1_150 : LkV RX1 150 yX1_findDoes cX1_findDoes 5 (some .boolean) 3 := ⟨wk_3_98, wk_3_56, wk_p45, wk_1_3, wk_3_57, ⟨by decide +kernel, by decide +kernel, by decide +kernel⟩⟩
theorem lk_X1_157 : LkNV RX1 157 yX3_become RX6 cX3_become 9 none 2 := ⟨wk_3_99, wk_2_142, wk_p25, wk_1_9, wk_2_143, ⟨by decide +kernel, by decide +kernel, by decide +kernel⟩⟩
theorem lk_L_100 : LkV RL 100 yX6_truly cX6_truly 5 (some .long) 3 := ⟨wk_3_100, wk_3_101, wk_3_102, wk_1_1, wk_3_103, ⟨by decide +kernel, by decide +kernel, by decide +kernel⟩⟩
theorem lk_X6_202 : LkNV RX6 202 yX1_findTruly RX6 cX1_findTruly 5 (some .boolean) 3 := ⟨wk_3_104, wk_3_106, wk_p53, wk_1_3, wk_3_107, ⟨by decide +kernel, by decide +kernel, by decide +kernel⟩⟩
theorem lk_X1_161 : LkV RX1 161 yX1_servesOnlyIfCalled cX1_servesOnlyIfCalled 3 (some .boolean) 2 := ⟨wk_3_108, wk_3_110, wk_p54, wk_1_3, wk_3_111, ⟨by decide +kernel, by decide +kernel, by decide +kernel⟩⟩
theorem lk_L_104 : LkV RL 104 yX6_faded cX6_faded 5 (some .int) 2 := ⟨wk_3_112, wk_3_113, wk_3_114, wk_1_1, wk_3_115, ⟨by decide +kernel, by decide +kernel, by decide +kernel⟩⟩
theorem lk_X6_205 : LkNV RX6 205 yX3_isWithin RX6 cX3_isWithin 3 (some .boolean) 1 := ⟨wk_3_116, wk_3_118, wk_p55, wk_1_9, wk_3_119, ⟨by decide +kernel, by decide +kernel, by decide +kernel⟩⟩
theorem lk_L_108 : LkV RL 108 yX6_group cX6_group 6 (some .long) 4 := ⟨wk_3_120, wk_3_121, wk_3_122, wk_1_1, wk_3_123, ⟨by decide +kernel, by decide +kernel, by decide +kernel⟩⟩
theorem lk_X6_209 : LkNV RX6 209 yX1_isShown RX6 cX1_isShown 2 (some .boolean) 1 := ⟨wk_3_124, wk_3_126, wk_p56, wk_1_3, wk_3_127, ⟨by decide +kernel, by decide +kernel, by decide +kernel⟩⟩
theorem lk_X1_167 : LkV RX1 167 yX1_menOfMonth cX1_menOfMonth 4 (some .int) 1 := ⟨wk_3_128, wk_3_130, wk_p57, wk_1_3, wk_3_131, ⟨by decide +kernel, by decide +kernel, by decide +kernel⟩⟩
theorem lk_X1_164 : LkNS RX1 164 yX6_monthOf RX6 cX6_monthOf 2 (some .int) 1 := ⟨wk_3_132, wk_3_133, wk_1_1, wk_3_134, ⟨by decide +kernel, by decide +kernel, by decide +kernel⟩⟩
theorem lk_X6_214 : LkNV RX6 214 yX1_findGroup RX6 cX1_findGroup 8 none 4 := ⟨wk_3_136, wk_3_138, wk_p58, wk_1_3, wk_3_139, ⟨by decide +kernel, by decide +kernel, by decide +kernel⟩⟩
theorem lk_L_113 : LkV RL 113 yX6_least cX6_least 4 (some .int) 1 := ⟨wk_3_140, wk_3_141, wk_3_142, wk_1_1, wk_3_143, ⟨by decide +kernel, by decide +kernel, by decide +kernel⟩⟩
theorem lk_L_117 : LkV RL 117 yX6_shown cX6_shown 3 (some .int) 0 := ⟨wk_3_144, wk_3_145, wk_3_146, wk_1_1, wk_3_147, ⟨by decide +kernel, by decide +kernel, by decide +kernel⟩⟩
theorem lk_L_121 : LkV RL 121 yX6_moved cX6_moved 3 (some .int) 0 := ⟨wk_3_148, wk_3_149, wk_3_150, wk_1_1, wk_3_151, ⟨by decide +kernel, by decide +kernel, by decide +kernel⟩⟩
theorem lk_L_125 : LkV RL 125 yX6_cuts cX6_cuts 4 (some .int) 2 := ⟨wk_3_152, wk_3_153, wk_3_154, wk_1_1, wk_3_155, ⟨by decide +kernel, by decide +kernel, by decide +kernel⟩⟩
theorem lk_X6_221 : LkNV RX6 221 yX1_leastCutFor RX6 cX1_leastCutFor 7 (some .int) 2 := ⟨wk_3_156, wk_3_158, wk_p59, wk_1_3, wk_3_159, ⟨by decide +kernel, by decide +kernel, by decide +kernel⟩⟩
theorem lk_X1_170 : LkV RX1 170 yX1_menWithNumberUpTo cX1_menWithNumberUpTo 5 (some .int) 2 := ⟨wk_3_160, wk_3_162, wk_p60, wk_1_3, wk_3_163, ⟨by decide +kernel, by decide +kernel, by decide +kernel⟩⟩
theorem lk_L_129 : LkV RL 129 yX6_image cX6_image 1 (some .int) 0 := ⟨wk_3_164, wk_3_165, wk_3_166, wk_1_1, wk_3_167, ⟨by decide +kernel, by decide +kernel, by decide +kernel⟩⟩
theorem lk_X6_224 : LkNV RX6 224 yX1_copyLottery RX6 cX1_copyLottery 2 none 1 := ⟨wk_3_168, wk_3_170, wk_p61, wk_1_3, wk_3_171, ⟨by decide +kernel, by decide +kernel, by decide +kernel⟩⟩
theorem lk_X1_61 : LkNV RX1 61 yX0_copyJar RX6 cX0_copyJar 2 none 1 := ⟨wk_3_172, wk_3_174, wk_p62, wk_1_4, wk_3_175, ⟨by decide +kernel, by decide +kernel, by decide +kernel⟩⟩
theorem lk_X0_48 : LkNS RX0 48 yX6_copyRow RX6 cX6_copyRow 2 none 2 := ⟨wk_3_176, wk_3_177, wk_1_1, wk_3_178, ⟨by decide +kernel, by decide +kernel, by decide +kernel⟩⟩
theorem lk_X1_65 : LkNV RX1 65 yX2_copyMen RX6 cX2_copyMen 2 none 1 := ⟨wk_3_181, wk_3_183, wk_p63, wk_1_7, wk_3_184, ⟨by decide +kernel, by decide +kernel, by decide +kernel⟩⟩
theorem lk_X2_29 : LkNS RX2 29 yX6_copyRow RX6 cX6_copyRow 2 none 2 := ⟨wk_3_185, wk_3_177, wk_1_1, wk_3_178, ⟨by decide +kernel, by decide +kernel, by decide +kernel⟩⟩
theorem lk_X1_69 : LkNS RX1 69 yX6_copyRow RX6 cX6_copyRow 2 none 2 := ⟨wk_3_186, wk_3_177, wk_1_1, wk_3_178, ⟨by decide +kernel, by decide +kernel, by decide +kernel⟩⟩
theorem lk_L_133 : LkV RL 133 yX6_on cX6_on 1 (some .int) 0 := ⟨wk_3_187, wk_3_188, wk_3_189, wk_1_1, wk_3_190, ⟨by decide +kernel, by decide +kernel, by decide +kernel⟩⟩
theorem lk_L_137 : LkV RL 137 yX6_count cX6_count 2 (some .int) 1 := ⟨wk_3_191, wk_3_192, wk_3_193, wk_1_1, wk_3_194, ⟨by decide +kernel, by decide +kernel, by decide +kernel⟩⟩
theorem lk_X6_228 : LkNV RX6 228 yX1_menWhoServed RX6 cX1_menWhoServed 4 (some .int) 1 := ⟨wk_3_195, wk_3_197, wk_p64, wk_1_3, wk_3_198, ⟨by decide +kernel, by decide +kernel, by decide +kernel⟩⟩
theorem lk_L_12 : LkI RL 12 yX7_init cX7_init 1 0 := ⟨wk_3_201, wk_3_202, rfl, wk_1_10, wk_3_203, ⟨by decide +kernel, by decide +kernel, by decide +kernel⟩⟩
theorem lk_L_29 : LkV RL 29 yX7_jar cX7_jar 7 (some .int) 5 := ⟨wk_4_51, wk_4_52, wk_4_53, wk_1_10, wk_4_54, ⟨by decide +kernel, by decide +kernel, by decide +kernel⟩⟩
theorem lk_X7_77 : LkS RX7 77 yX7_isJar cX7_isJar 1 (some .boolean) 1 := ⟨wk_4_55, wk_4_56, wk_1_10, wk_4_57, ⟨by decide +kernel, by decide +kernel, by decide +kernel⟩⟩
theorem lk_X7_81 : LkV RX7 81 yX7_no cX7_no 2 (some .int) 1 := ⟨wk_4_58, wk_4_60, wk_p65, wk_1_10, wk_4_61, ⟨by decide +kernel, by decide +kernel, by decide +kernel⟩⟩
theorem lk_L_34 : LkV RL 34 yX7_pour cX7_pour 3 (some .int) 2 := ⟨wk_4_62, wk_4_63, wk_4_64, wk_1_10, wk_4_65, ⟨by decide +kernel, by decide +kernel, by decide +kernel⟩⟩
theorem lk_L_39 : LkV RL 39 yX7_number cX7_number 3 (some .int) 2 := ⟨wk_4_66, wk_4_67, wk_4_68, wk_1_10, wk_4_69, ⟨by decide +kernel, by decide +kernel, by decide +kernel⟩⟩
theorem lk_X7_96 : LkS RX7 96 yX7_isIn cX7_isIn 3 (some .boolean) 3 := ⟨wk_4_70, wk_4_71, wk_1_10, wk_4_72, ⟨by decide +kernel, by decide +kernel, by decide +kernel⟩⟩
theorem lk_X7_100 : LkV RX7 100 yX7_numberOf cX7_numberOf 3 (some .int) 2 := ⟨wk_4_73, wk_4_75, wk_p66, wk_1_10, wk_4_76, ⟨by decide +kernel, by decide +kernel, by decide +kernel⟩⟩
theorem lk_X7_92 : LkV RX7 92 yX7_draws cX7_draws 6 none 1 := ⟨wk_4_77, wk_4_79, wk_p67, wk_1_10, wk_4_80, ⟨by decide +kernel, by decide +kernel, by decide +kernel⟩⟩
theorem lk_X7_85 : LkV RX7 85 yX7_lot cX7_lot 2 (some .int) 1 := ⟨wk_4_81, wk_4_83, wk_p68, wk_1_10, wk_4_84, ⟨by decide +kernel, by decide +kernel, by decide +kernel⟩⟩
theorem lk_X7_88 : LkV RX7 88 yX7_changes cX7_changes 4 none 2 := ⟨wk_4_88, wk_4_90, wk_p69, wk_1_10, wk_4_91, ⟨by decide +kernel, by decide +kernel, by decide +kernel⟩⟩
theorem lk_L_43 : LkV RL 43 yX7_dayOf cX7_dayOf 6 (some .int) 2 := ⟨wk_4_92, wk_4_93, wk_4_94, wk_1_10, wk_4_95, ⟨by decide +kernel, by decide +kernel, by decide +kernel⟩⟩
theorem lk_X7_104 : LkS RX7 104 yX7_out cX7_out 3 (some .int) 3 := ⟨wk_4_96, wk_4_97, wk_1_10, wk_4_98, ⟨by decide +kernel, by decide +kernel, by decide +kernel⟩⟩
theorem lk_L_48 : LkV RL 48 yX7_mean cX7_mean 4 (some .long) 3 := ⟨wk_4_99, wk_4_100, wk_4_101, wk_1_10, wk_4_102, ⟨by decide +kernel, by decide +kernel, by decide +kernel⟩⟩
theorem lk_X7_118 : LkS RX7 118 yX7_isMonth cX7_isMonth 1 (some .boolean) 1 := ⟨wk_4_103, wk_4_104, wk_1_10, wk_4_105, ⟨by decide +kernel, by decide +kernel, by decide +kernel⟩⟩
theorem lk_X7_121 : LkV RX7 121 yX7_noLong cX7_noLong 2 (some .long) 1 := ⟨wk_4_106, wk_4_108, wk_p70, wk_1_10, wk_4_109, ⟨by decide +kernel, by decide +kernel, by decide +kernel⟩⟩
theorem lk_X7_125 : LkS RX7 125 yX7_isPart cX7_isPart 1 (some .boolean) 1 := ⟨wk_4_111, wk_4_112, wk_1_10, wk_4_113, ⟨by decide +kernel, by decide +kernel, by decide +kernel⟩⟩
theorem lk_X7_128 : LkV RX7 128 yX7_sumOf cX7_sumOf 6 (some .long) 2 := ⟨wk_4_114, wk_4_116, wk_p71, wk_1_10, wk_4_117, ⟨by decide +kernel, by decide +kernel, by decide +kernel⟩⟩
theorem lk_X7_108 : LkV RX7 108 yX7_firstOf cX7_firstOf 4 (some .int) 1 := ⟨wk_4_118, wk_4_120, wk_p72, wk_1_10, wk_4_121, ⟨by decide +kernel, by decide +kernel, by decide +kernel⟩⟩
theorem lk_X7_132 : LkV RX7 132 yX7_lessens cX7_lessens 11 none 2 := ⟨wk_4_122, wk_4_124, wk_p73, wk_1_10, wk_4_125, ⟨by decide +kernel, by decide +kernel, by decide +kernel⟩⟩
theorem lk_X7_136 : LkV RX7 136 yX7_told cX7_told 2 (some .long) 1 := ⟨wk_4_126, wk_4_128, wk_p74, wk_1_10, wk_4_129, ⟨by decide +kernel, by decide +kernel, by decide +kernel⟩⟩
theorem lk_L_53 : LkV RL 53 yX7_lean cX7_lean 5 (some .long) 1 := ⟨wk_4_130, wk_4_131, wk_4_132, wk_1_10, wk_4_133, ⟨by decide +kernel, by decide +kernel, by decide +kernel⟩⟩
theorem lk_L_58 : LkV RL 58 yX7_worst cX7_worst 4 (some .int) 1 := ⟨wk_4_137, wk_4_138, wk_4_139, wk_1_10, wk_4_140, ⟨by decide +kernel, by decide +kernel, by decide +kernel⟩⟩
theorem lk_X7_145 : LkV RX7 145 yX7_offOf cX7_offOf 5 (some .long) 2 := ⟨wk_4_141, wk_4_143, wk_p75, wk_1_10, wk_4_144, ⟨by decide +kernel, by decide +kernel, by decide +kernel⟩⟩
theorem lk_L_62 : LkV RL 62 yX7_turned cX7_turned 5 (some .int) 1 := ⟨wk_4_145, wk_4_146, wk_4_147, wk_1_10, wk_4_148, ⟨by decide +kernel, by decide +kernel, by decide +kernel⟩⟩
theorem lk_L_19 : LkV RL 19 yX7_feed cX7_feed 6 (some .int) 2 := ⟨wk_4_149, wk_4_150, wk_4_151, wk_1_10, wk_4_152, ⟨by decide +kernel, by decide +kernel, by decide +kernel⟩⟩
theorem lk_L_24 : LkV RL 24 yX7_man cX7_man 2 (some .int) 0 := ⟨wk_4_154, wk_4_155, wk_4_156, wk_1_10, wk_4_157, ⟨by decide +kernel, by decide +kernel, by decide +kernel⟩⟩
theorem lk_X7_166 : LkV RX7 166 yX7_reads cX7_reads 6 (some .boolean) 0 := ⟨wk_4_158, wk_4_160, wk_p76, wk_1_10, wk_4_161, ⟨by decide +kernel, by decide +kernel, by decide +kernel⟩⟩
theorem lk_X7_156 : LkV RX7 156 yX7_sign cX7_sign 1 (some .int) 0 := ⟨wk_4_162, wk_4_164, wk_p77, wk_1_10, wk_4_165, ⟨by decide +kernel, by decide +kernel, by decide +kernel⟩⟩
theorem lk_X7_160 : LkV RX7 160 yX7_number_ cX7_number_ 4 (some .int) 1 := ⟨wk_4_166, wk_4_168, wk_p78, wk_1_10, wk_4_169, ⟨by decide +kernel, by decide +kernel, by decide +kernel⟩⟩
theorem lk_L_66 : LkV RL 66 yX7_manOf cX7_manOf 3 (some .int) 2 := ⟨wk_4_170, wk_4_171, wk_4_172, wk_1_10, wk_4_173, ⟨by decide +kernel, by decide +kernel, by decide +kernel⟩⟩
theorem lk_X7_170 : LkV RX7 170 yX7_isMan cX7_isMan 2 (some .boolean) 1 := ⟨wk_4_174, wk_4_176, wk_p79, wk_1_10, wk_4_177, ⟨by decide +kernel, by decide +kernel, by decide +kernel⟩⟩
theorem lk_L_70 : LkV RL 70 yX7_cut cX7_cut 4 (some .int) 1 := ⟨wk_4_178, wk_4_179, wk_4_180, wk_1_10, wk_4_181, ⟨by decide +kernel, by decide +kernel, by decide +kernel⟩⟩
theorem lk_L_74 : LkV RL 74 yX7_law cX7_law 5 (some .int) 2 := ⟨wk_4_182, wk_4_183, wk_4_184, wk_1_10, wk_4_185, ⟨by decide +kernel, by decide +kernel, by decide +kernel⟩⟩
theorem lk_L_78 : LkV RL 78 yX7_called cX7_called 3 (some .int) 2 := ⟨wk_4_186, wk_4_187, wk_4_188, wk_1_10, wk_4_189, ⟨by decide +kernel, by decide +kernel, by decide +kernel⟩⟩
theorem lk_X7_173 : LkV RX7 173 yX7_isCalled cX7_isCalled 3 (some .boolean) 2 := ⟨wk_4_190, wk_4_192, wk_p80, wk_1_10, wk_4_193, ⟨by decide +kernel, by decide +kernel, by decide +kernel⟩⟩
theorem lk_L_82 : LkV RL 82 yX7_served cX7_served 3 (some .int) 2 := ⟨wk_4_194, wk_4_195, wk_4_196, wk_1_10, wk_4_197, ⟨by decide +kernel, by decide +kernel, by decide +kernel⟩⟩
theorem lk_X7_177 : LkV RX7 177 yX7_servedAs cX7_servedAs 4 (some .int) 2 := ⟨wk_4_198, wk_4_200, wk_p81, wk_1_10, wk_4_201, ⟨by decide +kernel, by decide +kernel, by decide +kernel⟩⟩
theorem lk_L_86 : LkV RL 86 yX7_wage cX7_wage 5 (some .long) 3 := ⟨wk_4_202, wk_4_203, wk_4_204, wk_1_10, wk_4_205, ⟨by decide +kernel, by decide +kernel, by decide +kernel⟩⟩
theorem lk_X7_183 : LkS RX7 183 yX7_notYear cX7_notYear 1 (some .int) 1 := ⟨wk_4_206, wk_4_207, wk_1_10, wk_4_208, ⟨by decide +kernel, by decide +kernel, by decide +kernel⟩⟩
theorem lk_X7_186 : LkV RX7 186 yX7_wageOf cX7_wageOf 7 (some .long) 3 := ⟨wk_4_209, wk_4_211, wk_p82, wk_1_10, wk_4_212, ⟨by decide +kernel, by decide +kernel, by decide +kernel⟩⟩
theorem lk_X7_180 : LkV RX7 180 yX7_lossIn cX7_lossIn 3 (some .int) 1 := ⟨wk_4_213, wk_4_215, wk_p83, wk_1_10, wk_4_216, ⟨by decide +kernel, by decide +kernel, by decide +kernel⟩⟩
theorem lk_L_90 : LkV RL 90 yX7_does cX7_does 5 (some .long) 3 := ⟨wk_4_217, wk_4_218, wk_4_219, wk_1_10, wk_4_220, ⟨by decide +kernel, by decide +kernel, by decide +kernel⟩⟩
theorem lk_X7_193 : LkV RX7 193 yX7_notAsked cX7_notAsked 3 (some .int) 2 := ⟨wk_4_221, wk_4_223, wk_p84, wk_1_10, wk_4_224, ⟨by decide +kernel, by decide +kernel, by decide +kernel⟩⟩
theorem lk_X7_196 : LkV RX7 196 yX7_differs cX7_differs 14 (some .boolean) 2 := ⟨wk_4_225, wk_4_227, wk_p85, wk_1_10, wk_4_228, ⟨by decide +kernel, by decide +kernel, by decide +kernel⟩⟩
theorem lk_X7_190 : LkV RX7 190 yX7_hasServed cX7_hasServed 3 (some .boolean) 2 := ⟨wk_4_229, wk_4_231, wk_p86, wk_1_10, wk_4_232, ⟨by decide +kernel, by decide +kernel, by decide +kernel⟩⟩
theorem lk_L_95 : LkV RL 95 yX7_share cX7_share 4 (some .long) 2 := ⟨wk_4_233, wk_4_234, wk_4_235, wk_1_10, wk_4_236, ⟨by decide +kernel, by decide +kernel, by decide +kernel⟩⟩
theorem lk_L_99 : LkV RL 99 yX7_serving cX7_serving 9 (some .long) 3 := ⟨wk_4_237, wk_4_238, wk_4_239, wk_1_10, wk_5_0, ⟨by decide +kernel, by decide +kernel, by decide +kernel⟩⟩
theorem lk_L_103 : LkV RL 103 yX7_truly cX7_truly 7 (some .long) 3 := ⟨wk_5_1, wk_5_2, wk_5_3, wk_1_10, wk_5_4, ⟨by decide +kernel, by decide +kernel, by decide +kernel⟩⟩
theorem lk_L_107 : LkV RL 107 yX7_faded cX7_faded 5 (some .int) 2 := ⟨wk_5_5, wk_5_6, wk_5_7, wk_1_10, wk_5_8, ⟨by decide +kernel, by decide +kernel, by decide +kernel⟩⟩
theorem lk_L_112 : LkV RL 112 yX7_group cX7_group 9 (some .long) 4 := ⟨wk_5_9, wk_5_10, wk_5_11, wk_1_10, wk_5_12, ⟨by decide +kernel, by decide +kernel, by decide +kernel⟩⟩
theorem lk_X7_202 : LkV RX7 202 yX7_bornIn cX7_bornIn 4 (some .int) 1 := ⟨wk_5_13, wk_5_15, wk_p87, wk_1_10, wk_5_16, ⟨by decide +kernel, by decide +kernel, by decide +kernel⟩⟩
theorem lk_X7_199 : LkV RX7 199 yX7_monthOf cX7_monthOf 3 (some .int) 1 := ⟨wk_5_17, wk_5_19, wk_p88, wk_1_10, wk_5_20, ⟨by decide +kernel, by decide +kernel, by decide +kernel⟩⟩
theorem lk_L_116 : LkV RL 116 yX7_least cX7_least 4 (some .int) 1 := ⟨wk_5_22, wk_5_23, wk_5_24, wk_1_10, wk_5_25, ⟨by decide +kernel, by decide +kernel, by decide +kernel⟩⟩
theorem lk_L_120 : LkV RL 120 yX7_shown cX7_shown 3 (some .int) 0 := ⟨wk_5_26, wk_5_27, wk_5_28, wk_1_10, wk_5_29, ⟨by decide +kernel, by decide +kernel, by decide +kernel⟩⟩
theorem lk_L_124 : LkV RL 124 yX7_moved cX7_moved 3 (some .int) 0 := ⟨wk_5_30, wk_5_31, wk_5_32, wk_1_10, wk_5_33, ⟨by decide +kernel, by decide +kernel, by decide +kernel⟩⟩
theorem lk_L_128 : LkV RL 128 yX7_cuts cX7_cuts 7 (some .int) 2 := ⟨wk_5_34, wk_5_35, wk_5_36, wk_1_10, wk_5_37, ⟨by decide +kernel, by decide +kernel, by decide +kernel⟩⟩
theorem lk_L_132 : LkV RL 132 yX7_image cX7_image 1 (some .int) 0 := ⟨wk_5_38, wk_5_39, wk_5_40, wk_1_10, wk_5_41, ⟨by decide +kernel, by decide +kernel, by decide +kernel⟩⟩
theorem lk_X7_224 : LkV RX7 224 yX7_passesAll cX7_passesAll 1 none 0 := ⟨wk_5_42, wk_5_44, wk_p89, wk_1_10, wk_5_45, ⟨by decide +kernel, by decide +kernel, by decide +kernel⟩⟩
theorem lk_X7_214 : LkV RX7 214 yX7_passes cX7_passes 3 none 1 := ⟨wk_5_46, wk_5_48, wk_p90, wk_1_10, wk_5_49, ⟨by decide +kernel, by decide +kernel, by decide +kernel⟩⟩
theorem lk_X7_218 : LkV RX7 218 yX7_passOne cX7_passOne 3 (some .int) 1 := ⟨wk_5_50, wk_5_52, wk_p91, wk_1_10, wk_5_53, ⟨by decide +kernel, by decide +kernel, by decide +kernel⟩⟩
theorem lk_L_136 : LkV RL 136 yX7_on cX7_on 1 (some .int) 0 := ⟨wk_5_54, wk_5_55, wk_5_56, wk_1_10, wk_5_57, ⟨by decide +kernel, by decide +kernel, by decide +kernel⟩⟩
theorem lk_L_140 : LkV RL 140 yX7_count cX7_count 4 (some .int) 1 := ⟨wk_5_58, wk_5_59, wk_5_60, wk_1_10, wk_5_61, ⟨by decide +kernel, by decide +kernel, by decide +kernel⟩⟩
theorem inG0 : ∀ w ∈ u_ws RX0 TX0 10, w ∈ gtbl := by
  intro w hw
  obtain ⟨k, hk, rfl⟩ := List.mem_map.mp hw
  have hk := List.mem_range.mp hk
  rcases (show k = 0 ∨ k = 1 ∨ k = 2 ∨ k = 3 ∨ k = 4 ∨ k = 5 ∨ k = 6 ∨ k = 7 ∨ k = 8 ∨ k = 9 by omega) with rfl | rfl | rfl | rfl | rfl | rfl | rfl | rfl | rfl | rfl
  · exact wk_1_120
  · exact wk_1_122
  · exact wk_1_124
  · exact wk_1_126
  · exact wk_1_128
  · exact wk_1_130
  · exact wk_1_132
  · exact wk_1_134
  · exact wk_1_136
  · exact wk_1_138
theorem inG1 : ∀ w ∈ u_ws RX1 TX1 8, w ∈ gtbl := by
  intro w hw
  obtain ⟨k, hk, rfl⟩ := List.mem_map.mp hw
  have hk := List.mem_range.mp hk
  rcases (show k = 0 ∨ k = 1 ∨ k = 2 ∨ k = 3 ∨ k = 4 ∨ k = 5 ∨ k = 6 ∨ k = 7 by omega) with rfl | rfl | rfl | rfl | rfl | rfl | rfl | rfl
  · exact wk_1_218
  · exact wk_1_220
  · exact wk_1_222
  · exact wk_1_224
  · exact wk_1_226
  · exact wk_1_228
  · exact wk_1_230
  · exact wk_1_232
theorem inG2 : ∀ w ∈ u_ws RX2 TX2 4, w ∈ gtbl := by
  intro w hw
  obtain ⟨k, hk, rfl⟩ := List.mem_map.mp hw
  have hk := List.mem_range.mp hk
  rcases (show k = 0 ∨ k = 1 ∨ k = 2 ∨ k = 3 by omega) with rfl | rfl | rfl | rfl
  · exact wk_1_154
  · exact wk_1_156
  · exact wk_1_158
  · exact wk_1_160
theorem inG3 : ∀ w ∈ u_ws RX3 TX3 2, w ∈ gtbl := by
  intro w hw
  obtain ⟨k, hk, rfl⟩ := List.mem_map.mp hw
  have hk := List.mem_range.mp hk
  rcases (show k = 0 ∨ k = 1 by omega) with rfl | rfl
  · exact wk_1_201
  · exact wk_1_203
theorem inG4 : ∀ w ∈ u_ws RX4 TX4 4, w ∈ gtbl := by
  intro w hw
  obtain ⟨k, hk, rfl⟩ := List.mem_map.mp hw
  have hk := List.mem_range.mp hk
  rcases (show k = 0 ∨ k = 1 ∨ k = 2 ∨ k = 3 by omega) with rfl | rfl | rfl | rfl
  · exact wk_1_182
  · exact wk_1_184
  · exact wk_1_186
  · exact wk_1_188
theorem inG5 : ∀ w ∈ u_ws RX5 TX5 5, w ∈ gtbl := by
  intro w hw
  obtain ⟨k, hk, rfl⟩ := List.mem_map.mp hw
  have hk := List.mem_range.mp hk
  rcases (show k = 0 ∨ k = 1 ∨ k = 2 ∨ k = 3 ∨ k = 4 by omega) with rfl | rfl | rfl | rfl | rfl
  · exact wk_1_36
  · exact wk_1_38
  · exact wk_1_40
  · exact wk_1_42
  · exact wk_1_44
theorem inG6 : ∀ w ∈ u_ws RX6 TX6 6, w ∈ gtbl := by
  intro w hw
  obtain ⟨k, hk, rfl⟩ := List.mem_map.mp hw
  have hk := List.mem_range.mp hk
  rcases (show k = 0 ∨ k = 1 ∨ k = 2 ∨ k = 3 ∨ k = 4 ∨ k = 5 by omega) with rfl | rfl | rfl | rfl | rfl | rfl
  · exact wk_2_3
  · exact wk_2_5
  · exact wk_2_7
  · exact wk_2_9
  · exact wk_2_11
  · exact wk_2_13
theorem inG7 : ∀ w ∈ u_ws RX7 TX7 28, w ∈ gtbl := by
  intro w hw
  obtain ⟨k, hk, rfl⟩ := List.mem_map.mp hw
  have hk := List.mem_range.mp hk
  rcases (show k = 0 ∨ k = 1 ∨ k = 2 ∨ k = 3 ∨ k = 4 ∨ k = 5 ∨ k = 6 ∨ k = 7 ∨ k = 8 ∨ k = 9 ∨ k = 10 ∨ k = 11 ∨ k = 12 ∨ k = 13 ∨ k = 14 ∨ k = 15 ∨ k = 16 ∨ k = 17 ∨ k = 18 ∨ k = 19 ∨ k = 20 ∨ k = 21 ∨ k = 22 ∨ k = 23 ∨ k = 24 ∨ k = 25 ∨ k = 26 ∨ k = 27 by omega) with rfl | rfl | rfl | rfl | rfl | rfl | rfl | rfl | rfl | rfl | rfl | rfl | rfl | rfl | rfl | rfl | rfl | rfl | rfl | rfl | rfl | rfl | rfl | rfl | rfl | rfl | rfl | rfl
  · exact wk_3_233
  · exact wk_3_235
  · exact wk_3_237
  · exact wk_3_239
  · exact wk_4_1
  · exact wk_4_3
  · exact wk_4_5
  · exact wk_4_7
  · exact wk_4_9
  · exact wk_4_11
  · exact wk_4_13
  · exact wk_4_15
  · exact wk_4_17
  · exact wk_4_19
  · exact wk_4_21
  · exact wk_4_23
  · exact wk_4_25
  · exact wk_4_27
  · exact wk_4_29
  · exact wk_4_31
  · exact wk_4_33
  · exact wk_4_35
  · exact wk_4_37
  · exact wk_4_39
  · exact wk_4_41
  · exact wk_4_43
  · exact wk_4_45
  · exact wk_4_47
section LK
variable {p : Program} {l : Launch} {e : Env} {R : Room} {s : State} {m : MethodId} {args : Array Value} {below : List Frame} {meth : Method} {c : Code} {H : Heap} {locs : List Loc} {cells slots : Nat} {Q : State → Prop}
variable {cc : ByteArray} {pc : Nat} {ls : Array Slot} {rest : List Value} {D : va_G} {A : Nat → Prop} {a : Nat} {ws : va_W} {cI cJ cZ : ClassId} {nL : Nat} {fs : List Value} {v : Value}
theorem gf_X5_9 (hE : EV p m c cc nL s args RX5 D cI cJ cZ A) (hst : SS D A s ws H locs) (q0 : Nat) (he : ws[q0]? = some (a, .inr (5, fs))) (hv : fs[0]? = some v) (hdg : decode cc pc = .ok (.getfield 9, 3)) (kk : W p l e R s m args below meth c H locs cells slots Q (F0 m (pc + 3) ls (v :: rest))) : W p l e R s m args below meth c H locs cells slots Q (F0 m pc ls (.ref a :: rest)) :=
  va_get (T := TX5) (N := 5) hE.1.1 hE.1.2.1 hE.1.2.2.2.2 inG5 hE.1.2.2.2.1 hE.2.1 hst.1 q0 he rfl 0 (by decide) (hE.1.2.2.2.2 _ wk_1_27) (fun _ h => h) hv hdg kk
theorem pf_X5_9 (hE : EV p m c cc nL s args RX5 D cI cJ cZ A) (hst : SS D A s ws H locs) (q0 : Nat) (he : ws[q0]? = some (a, .inr (5, fs))) (hin : meth.name = "<init>") (hx : fits (.array .int) v = true) (hn : narrow (.array .int) v = v) (hlen : 0 < fs.length) (ws' : va_W) (hws : ws.set q0 (a, .inr (5, fs.set 0 v)) = ws') (hdg : decode cc pc = .ok (.putfield 9, 3)) (kk : ∀ (H1 : Heap) (locs1 : List Loc), SS D A s ws' H1 locs1 → W p l e R s m args below meth c H1 locs1 cells slots Q (F0 m (pc + 3) ls rest)) : W p l e R s m args below meth c H locs cells slots Q (F0 m pc ls (v :: .ref a :: rest)) := by
  subst hws
  exact va_putF (T := TX5) (N := 5) hE.1.1 hE.1.2.1 hE.1.2.2.2.2 inG5 tyX5 tyX5_ok nmX5 hE.1.2.2.2.1 hE.2.1 hst.1 hst.2.1 hst.2.2 q0 he rfl 0 (by decide) (hE.1.2.2.2.2 _ wk_1_27) (fun _ h => h) rfl hin rfl (ty := .array .int) (by decide +kernel) hn hx hlen hdg (fun H1 l1 g1 g2 g3 => kk H1 l1 ⟨g1, g2, g3⟩)
theorem gf_X5_15 (hE : EV p m c cc nL s args RX5 D cI cJ cZ A) (hst : SS D A s ws H locs) (q0 : Nat) (he : ws[q0]? = some (a, .inr (5, fs))) (hv : fs[1]? = some v) (hdg : decode cc pc = .ok (.getfield 15, 3)) (kk : W p l e R s m args below meth c H locs cells slots Q (F0 m (pc + 3) ls (v :: rest))) : W p l e R s m args below meth c H locs cells slots Q (F0 m pc ls (.ref a :: rest)) :=
  va_get (T := TX5) (N := 5) hE.1.1 hE.1.2.1 hE.1.2.2.2.2 inG5 hE.1.2.2.2.1 hE.2.1 hst.1 q0 he rfl 1 (by decide) (hE.1.2.2.2.2 _ wk_1_28) (fun _ h => h) hv hdg kk
theorem pf_X5_15 (hE : EV p m c cc nL s args RX5 D cI cJ cZ A) (hst : SS D A s ws H locs) (q0 : Nat) (he : ws[q0]? = some (a, .inr (5, fs))) (hx : fits (.int) v = true) (hn : narrow (.int) v = v) (hlen : 1 < fs.length) (ws' : va_W) (hws : ws.set q0 (a, .inr (5, fs.set 1 v)) = ws') (hdg : decode cc pc = .ok (.putfield 15, 3)) (kk : ∀ (H1 : Heap) (locs1 : List Loc), SS D A s ws' H1 locs1 → W p l e R s m args below meth c H1 locs1 cells slots Q (F0 m (pc + 3) ls rest)) : W p l e R s m args below meth c H locs cells slots Q (F0 m pc ls (v :: .ref a :: rest)) := by
  subst hws
  exact va_put (T := TX5) (N := 5) hE.1.1 hE.1.2.1 hE.1.2.2.2.2 inG5 tyX5 tyX5_ok nmX5 hE.1.2.2.2.1 hE.2.1 hst.1 hst.2.1 hst.2.2 q0 he rfl 1 (by decide) (hE.1.2.2.2.2 _ wk_1_28) (fun _ h => h) rfl (ty := .int) (by decide +kernel) hn hx hlen hdg (fun H1 l1 g1 g2 g3 => kk H1 l1 ⟨g1, g2, g3⟩)
theorem gf_X6_57 (hE : EV p m c cc nL s args RX6 D cI cJ cZ A) (hst : SS D A s ws H locs) (q0 : Nat) (he : ws[q0]? = some (a, .inr (5, fs))) (hv : fs[1]? = some v) (hdg : decode cc pc = .ok (.getfield 57, 3)) (kk : W p l e R s m args below meth c H locs cells slots Q (F0 m (pc + 3) ls (v :: rest))) : W p l e R s m args below meth c H locs cells slots Q (F0 m pc ls (.ref a :: rest)) :=
  va_getN (T := TX5) (N := 5) hE.1.1 hE.1.2.1 hE.1.2.2.2.2 inG5 hE.1.2.2.2.1 hE.2.1 hst.1 q0 he rfl 1 (by decide) (va_Nw.use rfl (hE.2.2.1.1 _ wk_1_29)) (fun _ h => h) hv hdg kk
theorem pf_X6_57 (hE : EV p m c cc nL s args RX6 D cI cJ cZ A) (hst : SS D A s ws H locs) (q0 : Nat) (he : ws[q0]? = some (a, .inr (5, fs))) (hx : fits (.int) v = true) (hn : narrow (.int) v = v) (hlen : 1 < fs.length) (ws' : va_W) (hws : ws.set q0 (a, .inr (5, fs.set 1 v)) = ws') (hdg : decode cc pc = .ok (.putfield 57, 3)) (kk : ∀ (H1 : Heap) (locs1 : List Loc), SS D A s ws' H1 locs1 → W p l e R s m args below meth c H1 locs1 cells slots Q (F0 m (pc + 3) ls rest)) : W p l e R s m args below meth c H locs cells slots Q (F0 m pc ls (v :: .ref a :: rest)) := by
  subst hws
  exact va_putN (T := TX5) (N := 5) hE.1.1 hE.1.2.1 hE.1.2.2.2.2 inG5 tyX5 tyX5_ok nmX5 hE.1.2.2.2.1 hE.2.1 hst.1 hst.2.1 hst.2.2 q0 he rfl 1 (by decide) (va_Nw.use rfl (hE.2.2.1.1 _ wk_1_29)) (fun _ h => h) rfl (ty := .int) (by decide +kernel) hn hx hlen hdg (fun H1 l1 g1 g2 g3 => kk H1 l1 ⟨g1, g2, g3⟩)
theorem gf_X5_19 (hE : EV p m c cc nL s args RX5 D cI cJ cZ A) (hst : SS D A s ws H locs) (q0 : Nat) (he : ws[q0]? = some (a, .inr (5, fs))) (hv : fs[2]? = some v) (hdg : decode cc pc = .ok (.getfield 19, 3)) (kk : W p l e R s m args below meth c H locs cells slots Q (F0 m (pc + 3) ls (v :: rest))) : W p l e R s m args below meth c H locs cells slots Q (F0 m pc ls (.ref a :: rest)) :=
  va_get (T := TX5) (N := 5) hE.1.1 hE.1.2.1 hE.1.2.2.2.2 inG5 hE.1.2.2.2.1 hE.2.1 hst.1 q0 he rfl 2 (by decide) (hE.1.2.2.2.2 _ wk_1_30) (fun _ h => h) hv hdg kk
theorem pf_X5_19 (hE : EV p m c cc nL s args RX5 D cI cJ cZ A) (hst : SS D A s ws H locs) (q0 : Nat) (he : ws[q0]? = some (a, .inr (5, fs))) (hx : fits (.int) v = true) (hn : narrow (.int) v = v) (hlen : 2 < fs.length) (ws' : va_W) (hws : ws.set q0 (a, .inr (5, fs.set 2 v)) = ws') (hdg : decode cc pc = .ok (.putfield 19, 3)) (kk : ∀ (H1 : Heap) (locs1 : List Loc), SS D A s ws' H1 locs1 → W p l e R s m args below meth c H1 locs1 cells slots Q (F0 m (pc + 3) ls rest)) : W p l e R s m args below meth c H locs cells slots Q (F0 m pc ls (v :: .ref a :: rest)) := by
  subst hws
  exact va_put (T := TX5) (N := 5) hE.1.1 hE.1.2.1 hE.1.2.2.2.2 inG5 tyX5 tyX5_ok nmX5 hE.1.2.2.2.1 hE.2.1 hst.1 hst.2.1 hst.2.2 q0 he rfl 2 (by decide) (hE.1.2.2.2.2 _ wk_1_30) (fun _ h => h) rfl (ty := .int) (by decide +kernel) hn hx hlen hdg (fun H1 l1 g1 g2 g3 => kk H1 l1 ⟨g1, g2, g3⟩)
theorem gf_X6_77 (hE : EV p m c cc nL s args RX6 D cI cJ cZ A) (hst : SS D A s ws H locs) (q0 : Nat) (he : ws[q0]? = some (a, .inr (5, fs))) (hv : fs[2]? = some v) (hdg : decode cc pc = .ok (.getfield 77, 3)) (kk : W p l e R s m args below meth c H locs cells slots Q (F0 m (pc + 3) ls (v :: rest))) : W p l e R s m args below meth c H locs cells slots Q (F0 m pc ls (.ref a :: rest)) :=
  va_getN (T := TX5) (N := 5) hE.1.1 hE.1.2.1 hE.1.2.2.2.2 inG5 hE.1.2.2.2.1 hE.2.1 hst.1 q0 he rfl 2 (by decide) (va_Nw.use rfl (hE.2.2.1.1 _ wk_1_31)) (fun _ h => h) hv hdg kk
theorem pf_X6_77 (hE : EV p m c cc nL s args RX6 D cI cJ cZ A) (hst : SS D A s ws H locs) (q0 : Nat) (he : ws[q0]? = some (a, .inr (5, fs))) (hx : fits (.int) v = true) (hn : narrow (.int) v = v) (hlen : 2 < fs.length) (ws' : va_W) (hws : ws.set q0 (a, .inr (5, fs.set 2 v)) = ws') (hdg : decode cc pc = .ok (.putfield 77, 3)) (kk : ∀ (H1 : Heap) (locs1 : List Loc), SS D A s ws' H1 locs1 → W p l e R s m args below meth c H1 locs1 cells slots Q (F0 m (pc + 3) ls rest)) : W p l e R s m args below meth c H locs cells slots Q (F0 m pc ls (v :: .ref a :: rest)) := by
  subst hws
  exact va_putN (T := TX5) (N := 5) hE.1.1 hE.1.2.1 hE.1.2.2.2.2 inG5 tyX5 tyX5_ok nmX5 hE.1.2.2.2.1 hE.2.1 hst.1 hst.2.1 hst.2.2 q0 he rfl 2 (by decide) (va_Nw.use rfl (hE.2.2.1.1 _ wk_1_31)) (fun _ h => h) rfl (ty := .int) (by decide +kernel) hn hx hlen hdg (fun H1 l1 g1 g2 g3 => kk H1 l1 ⟨g1, g2, g3⟩)
theorem gf_X5_22 (hE : EV p m c cc nL s args RX5 D cI cJ cZ A) (hst : SS D A s ws H locs) (q0 : Nat) (he : ws[q0]? = some (a, .inr (5, fs))) (hv : fs[3]? = some v) (hdg : decode cc pc = .ok (.getfield 22, 3)) (kk : W p l e R s m args below meth c H locs cells slots Q (F0 m (pc + 3) ls (v :: rest))) : W p l e R s m args below meth c H locs cells slots Q (F0 m pc ls (.ref a :: rest)) :=
  va_get (T := TX5) (N := 5) hE.1.1 hE.1.2.1 hE.1.2.2.2.2 inG5 hE.1.2.2.2.1 hE.2.1 hst.1 q0 he rfl 3 (by decide) (hE.1.2.2.2.2 _ wk_1_32) (fun _ h => h) hv hdg kk
theorem pf_X5_22 (hE : EV p m c cc nL s args RX5 D cI cJ cZ A) (hst : SS D A s ws H locs) (q0 : Nat) (he : ws[q0]? = some (a, .inr (5, fs))) (hx : fits (.int) v = true) (hn : narrow (.int) v = v) (hlen : 3 < fs.length) (ws' : va_W) (hws : ws.set q0 (a, .inr (5, fs.set 3 v)) = ws') (hdg : decode cc pc = .ok (.putfield 22, 3)) (kk : ∀ (H1 : Heap) (locs1 : List Loc), SS D A s ws' H1 locs1 → W p l e R s m args below meth c H1 locs1 cells slots Q (F0 m (pc + 3) ls rest)) : W p l e R s m args below meth c H locs cells slots Q (F0 m pc ls (v :: .ref a :: rest)) := by
  subst hws
  exact va_put (T := TX5) (N := 5) hE.1.1 hE.1.2.1 hE.1.2.2.2.2 inG5 tyX5 tyX5_ok nmX5 hE.1.2.2.2.1 hE.2.1 hst.1 hst.2.1 hst.2.2 q0 he rfl 3 (by decide) (hE.1.2.2.2.2 _ wk_1_32) (fun _ h => h) rfl (ty := .int) (by decide +kernel) hn hx hlen hdg (fun H1 l1 g1 g2 g3 => kk H1 l1 ⟨g1, g2, g3⟩)
theorem gf_X6_80 (hE : EV p m c cc nL s args RX6 D cI cJ cZ A) (hst : SS D A s ws H locs) (q0 : Nat) (he : ws[q0]? = some (a, .inr (5, fs))) (hv : fs[3]? = some v) (hdg : decode cc pc = .ok (.getfield 80, 3)) (kk : W p l e R s m args below meth c H locs cells slots Q (F0 m (pc + 3) ls (v :: rest))) : W p l e R s m args below meth c H locs cells slots Q (F0 m pc ls (.ref a :: rest)) :=
  va_getN (T := TX5) (N := 5) hE.1.1 hE.1.2.1 hE.1.2.2.2.2 inG5 hE.1.2.2.2.1 hE.2.1 hst.1 q0 he rfl 3 (by decide) (va_Nw.use rfl (hE.2.2.1.1 _ wk_1_33)) (fun _ h => h) hv hdg kk
theorem pf_X6_80 (hE : EV p m c cc nL s args RX6 D cI cJ cZ A) (hst : SS D A s ws H locs) (q0 : Nat) (he : ws[q0]? = some (a, .inr (5, fs))) (hx : fits (.int) v = true) (hn : narrow (.int) v = v) (hlen : 3 < fs.length) (ws' : va_W) (hws : ws.set q0 (a, .inr (5, fs.set 3 v)) = ws') (hdg : decode cc pc = .ok (.putfield 80, 3)) (kk : ∀ (H1 : Heap) (locs1 : List Loc), SS D A s ws' H1 locs1 → W p l e R s m args below meth c H1 locs1 cells slots Q (F0 m (pc + 3) ls rest)) : W p l e R s m args below meth c H locs cells slots Q (F0 m pc ls (v :: .ref a :: rest)) := by
  subst hws
  exact va_putN (T := TX5) (N := 5) hE.1.1 hE.1.2.1 hE.1.2.2.2.2 inG5 tyX5 tyX5_ok nmX5 hE.1.2.2.2.1 hE.2.1 hst.1 hst.2.1 hst.2.2 q0 he rfl 3 (by decide) (va_Nw.use rfl (hE.2.2.1.1 _ wk_1_33)) (fun _ h => h) rfl (ty := .int) (by decide +kernel) hn hx hlen hdg (fun H1 l1 g1 g2 g3 => kk H1 l1 ⟨g1, g2, g3⟩)
theorem gf_X5_25 (hE : EV p m c cc nL s args RX5 D cI cJ cZ A) (hst : SS D A s ws H locs) (q0 : Nat) (he : ws[q0]? = some (a, .inr (5, fs))) (hv : fs[4]? = some v) (hdg : decode cc pc = .ok (.getfield 25, 3)) (kk : W p l e R s m args below meth c H locs cells slots Q (F0 m (pc + 3) ls (v :: rest))) : W p l e R s m args below meth c H locs cells slots Q (F0 m pc ls (.ref a :: rest)) :=
  va_get (T := TX5) (N := 5) hE.1.1 hE.1.2.1 hE.1.2.2.2.2 inG5 hE.1.2.2.2.1 hE.2.1 hst.1 q0 he rfl 4 (by decide) (hE.1.2.2.2.2 _ wk_1_34) (fun _ h => h) hv hdg kk
theorem pf_X5_25 (hE : EV p m c cc nL s args RX5 D cI cJ cZ A) (hst : SS D A s ws H locs) (q0 : Nat) (he : ws[q0]? = some (a, .inr (5, fs))) (hx : fits (.int) v = true) (hn : narrow (.int) v = v) (hlen : 4 < fs.length) (ws' : va_W) (hws : ws.set q0 (a, .inr (5, fs.set 4 v)) = ws') (hdg : decode cc pc = .ok (.putfield 25, 3)) (kk : ∀ (H1 : Heap) (locs1 : List Loc), SS D A s ws' H1 locs1 → W p l e R s m args below meth c H1 locs1 cells slots Q (F0 m (pc + 3) ls rest)) : W p l e R s m args below meth c H locs cells slots Q (F0 m pc ls (v :: .ref a :: rest)) := by
  subst hws
  exact va_put (T := TX5) (N := 5) hE.1.1 hE.1.2.1 hE.1.2.2.2.2 inG5 tyX5 tyX5_ok nmX5 hE.1.2.2.2.1 hE.2.1 hst.1 hst.2.1 hst.2.2 q0 he rfl 4 (by decide) (hE.1.2.2.2.2 _ wk_1_34) (fun _ h => h) rfl (ty := .int) (by decide +kernel) hn hx hlen hdg (fun H1 l1 g1 g2 g3 => kk H1 l1 ⟨g1, g2, g3⟩)
theorem gf_X6_83 (hE : EV p m c cc nL s args RX6 D cI cJ cZ A) (hst : SS D A s ws H locs) (q0 : Nat) (he : ws[q0]? = some (a, .inr (5, fs))) (hv : fs[4]? = some v) (hdg : decode cc pc = .ok (.getfield 83, 3)) (kk : W p l e R s m args below meth c H locs cells slots Q (F0 m (pc + 3) ls (v :: rest))) : W p l e R s m args below meth c H locs cells slots Q (F0 m pc ls (.ref a :: rest)) :=
  va_getN (T := TX5) (N := 5) hE.1.1 hE.1.2.1 hE.1.2.2.2.2 inG5 hE.1.2.2.2.1 hE.2.1 hst.1 q0 he rfl 4 (by decide) (va_Nw.use rfl (hE.2.2.1.1 _ wk_1_35)) (fun _ h => h) hv hdg kk
theorem pf_X6_83 (hE : EV p m c cc nL s args RX6 D cI cJ cZ A) (hst : SS D A s ws H locs) (q0 : Nat) (he : ws[q0]? = some (a, .inr (5, fs))) (hx : fits (.int) v = true) (hn : narrow (.int) v = v) (hlen : 4 < fs.length) (ws' : va_W) (hws : ws.set q0 (a, .inr (5, fs.set 4 v)) = ws') (hdg : decode cc pc = .ok (.putfield 83, 3)) (kk : ∀ (H1 : Heap) (locs1 : List Loc), SS D A s ws' H1 locs1 → W p l e R s m args below meth c H1 locs1 cells slots Q (F0 m (pc + 3) ls rest)) : W p l e R s m args below meth c H locs cells slots Q (F0 m pc ls (v :: .ref a :: rest)) := by
  subst hws
  exact va_putN (T := TX5) (N := 5) hE.1.1 hE.1.2.1 hE.1.2.2.2.2 inG5 tyX5 tyX5_ok nmX5 hE.1.2.2.2.1 hE.2.1 hst.1 hst.2.1 hst.2.2 q0 he rfl 4 (by decide) (va_Nw.use rfl (hE.2.2.1.1 _ wk_1_35)) (fun _ h => h) rfl (ty := .int) (by decide +kernel) hn hx hlen hdg (fun H1 l1 g1 g2 g3 => kk H1 l1 ⟨g1, g2, g3⟩)
theorem gf_X0_9 (hE : EV p m c cc nL s args RX0 D cI cJ cZ A) (hst : SS D A s ws H locs) (q0 : Nat) (he : ws[q0]? = some (a, .inr (0, fs))) (hv : fs[0]? = some v) (hdg : decode cc pc = .ok (.getfield 9, 3)) (kk : W p l e R s m args below meth c H locs cells slots Q (F0 m (pc + 3) ls (v :: rest))) : W p l e R s m args below meth c H locs cells slots Q (F0 m pc ls (.ref a :: rest)) :=
  va_get (T := TX0) (N := 10) hE.1.1 hE.1.2.1 hE.1.2.2.2.2 inG0 hE.1.2.2.2.1 hE.2.1 hst.1 q0 he rfl 0 (by decide) (hE.1.2.2.2.2 _ wk_1_110) (fun _ h => h) hv hdg kk
theorem pf_X0_9 (hE : EV p m c cc nL s args RX0 D cI cJ cZ A) (hst : SS D A s ws H locs) (q0 : Nat) (he : ws[q0]? = some (a, .inr (0, fs))) (hx : fits (.int) v = true) (hn : narrow (.int) v = v) (hlen : 0 < fs.length) (ws' : va_W) (hws : ws.set q0 (a, .inr (0, fs.set 0 v)) = ws') (hdg : decode cc pc = .ok (.putfield 9, 3)) (kk : ∀ (H1 : Heap) (locs1 : List Loc), SS D A s ws' H1 locs1 → W p l e R s m args below meth c H1 locs1 cells slots Q (F0 m (pc + 3) ls rest)) : W p l e R s m args below meth c H locs cells slots Q (F0 m pc ls (v :: .ref a :: rest)) := by
  subst hws
  exact va_put (T := TX0) (N := 10) hE.1.1 hE.1.2.1 hE.1.2.2.2.2 inG0 tyX0 tyX0_ok nmX0 hE.1.2.2.2.1 hE.2.1 hst.1 hst.2.1 hst.2.2 q0 he rfl 0 (by decide) (hE.1.2.2.2.2 _ wk_1_110) (fun _ h => h) rfl (ty := .int) (by decide +kernel) hn hx hlen hdg (fun H1 l1 g1 g2 g3 => kk H1 l1 ⟨g1, g2, g3⟩)
theorem gf_X0_15 (hE : EV p m c cc nL s args RX0 D cI cJ cZ A) (hst : SS D A s ws H locs) (q0 : Nat) (he : ws[q0]? = some (a, .inr (0, fs))) (hv : fs[1]? = some v) (hdg : decode cc pc = .ok (.getfield 15, 3)) (kk : W p l e R s m args below meth c H locs cells slots Q (F0 m (pc + 3) ls (v :: rest))) : W p l e R s m args below meth c H locs cells slots Q (F0 m pc ls (.ref a :: rest)) :=
  va_get (T := TX0) (N := 10) hE.1.1 hE.1.2.1 hE.1.2.2.2.2 inG0 hE.1.2.2.2.1 hE.2.1 hst.1 q0 he rfl 1 (by decide) (hE.1.2.2.2.2 _ wk_1_111) (fun _ h => h) hv hdg kk
theorem pf_X0_15 (hE : EV p m c cc nL s args RX0 D cI cJ cZ A) (hst : SS D A s ws H locs) (q0 : Nat) (he : ws[q0]? = some (a, .inr (0, fs))) (hx : fits (.int) v = true) (hn : narrow (.int) v = v) (hlen : 1 < fs.length) (ws' : va_W) (hws : ws.set q0 (a, .inr (0, fs.set 1 v)) = ws') (hdg : decode cc pc = .ok (.putfield 15, 3)) (kk : ∀ (H1 : Heap) (locs1 : List Loc), SS D A s ws' H1 locs1 → W p l e R s m args below meth c H1 locs1 cells slots Q (F0 m (pc + 3) ls rest)) : W p l e R s m args below meth c H locs cells slots Q (F0 m pc ls (v :: .ref a :: rest)) := by
  subst hws
  exact va_put (T := TX0) (N := 10) hE.1.1 hE.1.2.1 hE.1.2.2.2.2 inG0 tyX0 tyX0_ok nmX0 hE.1.2.2.2.1 hE.2.1 hst.1 hst.2.1 hst.2.2 q0 he rfl 1 (by decide) (hE.1.2.2.2.2 _ wk_1_111) (fun _ h => h) rfl (ty := .int) (by decide +kernel) hn hx hlen hdg (fun H1 l1 g1 g2 g3 => kk H1 l1 ⟨g1, g2, g3⟩)
theorem gf_X0_18 (hE : EV p m c cc nL s args RX0 D cI cJ cZ A) (hst : SS D A s ws H locs) (q0 : Nat) (he : ws[q0]? = some (a, .inr (0, fs))) (hv : fs[2]? = some v) (hdg : decode cc pc = .ok (.getfield 18, 3)) (kk : W p l e R s m args below meth c H locs cells slots Q (F0 m (pc + 3) ls (v :: rest))) : W p l e R s m args below meth c H locs cells slots Q (F0 m pc ls (.ref a :: rest)) :=
  va_get (T := TX0) (N := 10) hE.1.1 hE.1.2.1 hE.1.2.2.2.2 inG0 hE.1.2.2.2.1 hE.2.1 hst.1 q0 he rfl 2 (by decide) (hE.1.2.2.2.2 _ wk_1_112) (fun _ h => h) hv hdg kk
theorem pf_X0_18 (hE : EV p m c cc nL s args RX0 D cI cJ cZ A) (hst : SS D A s ws H locs) (q0 : Nat) (he : ws[q0]? = some (a, .inr (0, fs))) (hx : fits (.int) v = true) (hn : narrow (.int) v = v) (hlen : 2 < fs.length) (ws' : va_W) (hws : ws.set q0 (a, .inr (0, fs.set 2 v)) = ws') (hdg : decode cc pc = .ok (.putfield 18, 3)) (kk : ∀ (H1 : Heap) (locs1 : List Loc), SS D A s ws' H1 locs1 → W p l e R s m args below meth c H1 locs1 cells slots Q (F0 m (pc + 3) ls rest)) : W p l e R s m args below meth c H locs cells slots Q (F0 m pc ls (v :: .ref a :: rest)) := by
  subst hws
  exact va_put (T := TX0) (N := 10) hE.1.1 hE.1.2.1 hE.1.2.2.2.2 inG0 tyX0 tyX0_ok nmX0 hE.1.2.2.2.1 hE.2.1 hst.1 hst.2.1 hst.2.2 q0 he rfl 2 (by decide) (hE.1.2.2.2.2 _ wk_1_112) (fun _ h => h) rfl (ty := .int) (by decide +kernel) hn hx hlen hdg (fun H1 l1 g1 g2 g3 => kk H1 l1 ⟨g1, g2, g3⟩)
theorem gf_X0_21 (hE : EV p m c cc nL s args RX0 D cI cJ cZ A) (hst : SS D A s ws H locs) (q0 : Nat) (he : ws[q0]? = some (a, .inr (0, fs))) (hv : fs[3]? = some v) (hdg : decode cc pc = .ok (.getfield 21, 3)) (kk : W p l e R s m args below meth c H locs cells slots Q (F0 m (pc + 3) ls (v :: rest))) : W p l e R s m args below meth c H locs cells slots Q (F0 m pc ls (.ref a :: rest)) :=
  va_get (T := TX0) (N := 10) hE.1.1 hE.1.2.1 hE.1.2.2.2.2 inG0 hE.1.2.2.2.1 hE.2.1 hst.1 q0 he rfl 3 (by decide) (hE.1.2.2.2.2 _ wk_1_113) (fun _ h => h) hv hdg kk
theorem pf_X0_21 (hE : EV p m c cc nL s args RX0 D cI cJ cZ A) (hst : SS D A s ws H locs) (q0 : Nat) (he : ws[q0]? = some (a, .inr (0, fs))) (hx : fits (.int) v = true) (hn : narrow (.int) v = v) (hlen : 3 < fs.length) (ws' : va_W) (hws : ws.set q0 (a, .inr (0, fs.set 3 v)) = ws') (hdg : decode cc pc = .ok (.putfield 21, 3)) (kk : ∀ (H1 : Heap) (locs1 : List Loc), SS D A s ws' H1 locs1 → W p l e R s m args below meth c H1 locs1 cells slots Q (F0 m (pc + 3) ls rest)) : W p l e R s m args below meth c H locs cells slots Q (F0 m pc ls (v :: .ref a :: rest)) := by
  subst hws
  exact va_put (T := TX0) (N := 10) hE.1.1 hE.1.2.1 hE.1.2.2.2.2 inG0 tyX0 tyX0_ok nmX0 hE.1.2.2.2.1 hE.2.1 hst.1 hst.2.1 hst.2.2 q0 he rfl 3 (by decide) (hE.1.2.2.2.2 _ wk_1_113) (fun _ h => h) rfl (ty := .int) (by decide +kernel) hn hx hlen hdg (fun H1 l1 g1 g2 g3 => kk H1 l1 ⟨g1, g2, g3⟩)
theorem gf_X0_24 (hE : EV p m c cc nL s args RX0 D cI cJ cZ A) (hst : SS D A s ws H locs) (q0 : Nat) (he : ws[q0]? = some (a, .inr (0, fs))) (hv : fs[4]? = some v) (hdg : decode cc pc = .ok (.getfield 24, 3)) (kk : W p l e R s m args below meth c H locs cells slots Q (F0 m (pc + 3) ls (v :: rest))) : W p l e R s m args below meth c H locs cells slots Q (F0 m pc ls (.ref a :: rest)) :=
  va_get (T := TX0) (N := 10) hE.1.1 hE.1.2.1 hE.1.2.2.2.2 inG0 hE.1.2.2.2.1 hE.2.1 hst.1 q0 he rfl 4 (by decide) (hE.1.2.2.2.2 _ wk_1_114) (fun _ h => h) hv hdg kk
theorem pf_X0_24 (hE : EV p m c cc nL s args RX0 D cI cJ cZ A) (hst : SS D A s ws H locs) (q0 : Nat) (he : ws[q0]? = some (a, .inr (0, fs))) (hx : fits (.boolean) v = true) (hn : narrow (.boolean) v = v) (hlen : 4 < fs.length) (ws' : va_W) (hws : ws.set q0 (a, .inr (0, fs.set 4 v)) = ws') (hdg : decode cc pc = .ok (.putfield 24, 3)) (kk : ∀ (H1 : Heap) (locs1 : List Loc), SS D A s ws' H1 locs1 → W p l e R s m args below meth c H1 locs1 cells slots Q (F0 m (pc + 3) ls rest)) : W p l e R s m args below meth c H locs cells slots Q (F0 m pc ls (v :: .ref a :: rest)) := by
  subst hws
  exact va_put (T := TX0) (N := 10) hE.1.1 hE.1.2.1 hE.1.2.2.2.2 inG0 tyX0 tyX0_ok nmX0 hE.1.2.2.2.1 hE.2.1 hst.1 hst.2.1 hst.2.2 q0 he rfl 4 (by decide) (hE.1.2.2.2.2 _ wk_1_114) (fun _ h => h) rfl (ty := .boolean) (by decide +kernel) hn hx hlen hdg (fun H1 l1 g1 g2 g3 => kk H1 l1 ⟨g1, g2, g3⟩)
theorem gf_X0_28 (hE : EV p m c cc nL s args RX0 D cI cJ cZ A) (hst : SS D A s ws H locs) (q0 : Nat) (he : ws[q0]? = some (a, .inr (0, fs))) (hv : fs[5]? = some v) (hdg : decode cc pc = .ok (.getfield 28, 3)) (kk : W p l e R s m args below meth c H locs cells slots Q (F0 m (pc + 3) ls (v :: rest))) : W p l e R s m args below meth c H locs cells slots Q (F0 m pc ls (.ref a :: rest)) :=
  va_get (T := TX0) (N := 10) hE.1.1 hE.1.2.1 hE.1.2.2.2.2 inG0 hE.1.2.2.2.1 hE.2.1 hst.1 q0 he rfl 5 (by decide) (hE.1.2.2.2.2 _ wk_1_115) (fun _ h => h) hv hdg kk
theorem pf_X0_28 (hE : EV p m c cc nL s args RX0 D cI cJ cZ A) (hst : SS D A s ws H locs) (q0 : Nat) (he : ws[q0]? = some (a, .inr (0, fs))) (hin : meth.name = "<init>") (hx : fits (.array .int) v = true) (hn : narrow (.array .int) v = v) (hlen : 5 < fs.length) (ws' : va_W) (hws : ws.set q0 (a, .inr (0, fs.set 5 v)) = ws') (hdg : decode cc pc = .ok (.putfield 28, 3)) (kk : ∀ (H1 : Heap) (locs1 : List Loc), SS D A s ws' H1 locs1 → W p l e R s m args below meth c H1 locs1 cells slots Q (F0 m (pc + 3) ls rest)) : W p l e R s m args below meth c H locs cells slots Q (F0 m pc ls (v :: .ref a :: rest)) := by
  subst hws
  exact va_putF (T := TX0) (N := 10) hE.1.1 hE.1.2.1 hE.1.2.2.2.2 inG0 tyX0 tyX0_ok nmX0 hE.1.2.2.2.1 hE.2.1 hst.1 hst.2.1 hst.2.2 q0 he rfl 5 (by decide) (hE.1.2.2.2.2 _ wk_1_115) (fun _ h => h) rfl hin rfl (ty := .array .int) (by decide +kernel) hn hx hlen hdg (fun H1 l1 g1 g2 g3 => kk H1 l1 ⟨g1, g2, g3⟩)
theorem gf_X0_32 (hE : EV p m c cc nL s args RX0 D cI cJ cZ A) (hst : SS D A s ws H locs) (q0 : Nat) (he : ws[q0]? = some (a, .inr (0, fs))) (hv : fs[6]? = some v) (hdg : decode cc pc = .ok (.getfield 32, 3)) (kk : W p l e R s m args below meth c H locs cells slots Q (F0 m (pc + 3) ls (v :: rest))) : W p l e R s m args below meth c H locs cells slots Q (F0 m pc ls (.ref a :: rest)) :=
  va_get (T := TX0) (N := 10) hE.1.1 hE.1.2.1 hE.1.2.2.2.2 inG0 hE.1.2.2.2.1 hE.2.1 hst.1 q0 he rfl 6 (by decide) (hE.1.2.2.2.2 _ wk_1_116) (fun _ h => h) hv hdg kk
theorem pf_X0_32 (hE : EV p m c cc nL s args RX0 D cI cJ cZ A) (hst : SS D A s ws H locs) (q0 : Nat) (he : ws[q0]? = some (a, .inr (0, fs))) (hin : meth.name = "<init>") (hx : fits (.array .int) v = true) (hn : narrow (.array .int) v = v) (hlen : 6 < fs.length) (ws' : va_W) (hws : ws.set q0 (a, .inr (0, fs.set 6 v)) = ws') (hdg : decode cc pc = .ok (.putfield 32, 3)) (kk : ∀ (H1 : Heap) (locs1 : List Loc), SS D A s ws' H1 locs1 → W p l e R s m args below meth c H1 locs1 cells slots Q (F0 m (pc + 3) ls rest)) : W p l e R s m args below meth c H locs cells slots Q (F0 m pc ls (v :: .ref a :: rest)) := by
  subst hws
  exact va_putF (T := TX0) (N := 10) hE.1.1 hE.1.2.1 hE.1.2.2.2.2 inG0 tyX0 tyX0_ok nmX0 hE.1.2.2.2.1 hE.2.1 hst.1 hst.2.1 hst.2.2 q0 he rfl 6 (by decide) (hE.1.2.2.2.2 _ wk_1_116) (fun _ h => h) rfl hin rfl (ty := .array .int) (by decide +kernel) hn hx hlen hdg (fun H1 l1 g1 g2 g3 => kk H1 l1 ⟨g1, g2, g3⟩)
theorem gf_X0_35 (hE : EV p m c cc nL s args RX0 D cI cJ cZ A) (hst : SS D A s ws H locs) (q0 : Nat) (he : ws[q0]? = some (a, .inr (0, fs))) (hv : fs[7]? = some v) (hdg : decode cc pc = .ok (.getfield 35, 3)) (kk : W p l e R s m args below meth c H locs cells slots Q (F0 m (pc + 3) ls (v :: rest))) : W p l e R s m args below meth c H locs cells slots Q (F0 m pc ls (.ref a :: rest)) :=
  va_get (T := TX0) (N := 10) hE.1.1 hE.1.2.1 hE.1.2.2.2.2 inG0 hE.1.2.2.2.1 hE.2.1 hst.1 q0 he rfl 7 (by decide) (hE.1.2.2.2.2 _ wk_1_117) (fun _ h => h) hv hdg kk
theorem pf_X0_35 (hE : EV p m c cc nL s args RX0 D cI cJ cZ A) (hst : SS D A s ws H locs) (q0 : Nat) (he : ws[q0]? = some (a, .inr (0, fs))) (hin : meth.name = "<init>") (hx : fits (.array .int) v = true) (hn : narrow (.array .int) v = v) (hlen : 7 < fs.length) (ws' : va_W) (hws : ws.set q0 (a, .inr (0, fs.set 7 v)) = ws') (hdg : decode cc pc = .ok (.putfield 35, 3)) (kk : ∀ (H1 : Heap) (locs1 : List Loc), SS D A s ws' H1 locs1 → W p l e R s m args below meth c H1 locs1 cells slots Q (F0 m (pc + 3) ls rest)) : W p l e R s m args below meth c H locs cells slots Q (F0 m pc ls (v :: .ref a :: rest)) := by
  subst hws
  exact va_putF (T := TX0) (N := 10) hE.1.1 hE.1.2.1 hE.1.2.2.2.2 inG0 tyX0 tyX0_ok nmX0 hE.1.2.2.2.1 hE.2.1 hst.1 hst.2.1 hst.2.2 q0 he rfl 7 (by decide) (hE.1.2.2.2.2 _ wk_1_117) (fun _ h => h) rfl hin rfl (ty := .array .int) (by decide +kernel) hn hx hlen hdg (fun H1 l1 g1 g2 g3 => kk H1 l1 ⟨g1, g2, g3⟩)
theorem gf_X0_38 (hE : EV p m c cc nL s args RX0 D cI cJ cZ A) (hst : SS D A s ws H locs) (q0 : Nat) (he : ws[q0]? = some (a, .inr (0, fs))) (hv : fs[8]? = some v) (hdg : decode cc pc = .ok (.getfield 38, 3)) (kk : W p l e R s m args below meth c H locs cells slots Q (F0 m (pc + 3) ls (v :: rest))) : W p l e R s m args below meth c H locs cells slots Q (F0 m pc ls (.ref a :: rest)) :=
  va_get (T := TX0) (N := 10) hE.1.1 hE.1.2.1 hE.1.2.2.2.2 inG0 hE.1.2.2.2.1 hE.2.1 hst.1 q0 he rfl 8 (by decide) (hE.1.2.2.2.2 _ wk_1_118) (fun _ h => h) hv hdg kk
theorem pf_X0_38 (hE : EV p m c cc nL s args RX0 D cI cJ cZ A) (hst : SS D A s ws H locs) (q0 : Nat) (he : ws[q0]? = some (a, .inr (0, fs))) (hin : meth.name = "<init>") (hx : fits (.array .long) v = true) (hn : narrow (.array .long) v = v) (hlen : 8 < fs.length) (ws' : va_W) (hws : ws.set q0 (a, .inr (0, fs.set 8 v)) = ws') (hdg : decode cc pc = .ok (.putfield 38, 3)) (kk : ∀ (H1 : Heap) (locs1 : List Loc), SS D A s ws' H1 locs1 → W p l e R s m args below meth c H1 locs1 cells slots Q (F0 m (pc + 3) ls rest)) : W p l e R s m args below meth c H locs cells slots Q (F0 m pc ls (v :: .ref a :: rest)) := by
  subst hws
  exact va_putF (T := TX0) (N := 10) hE.1.1 hE.1.2.1 hE.1.2.2.2.2 inG0 tyX0 tyX0_ok nmX0 hE.1.2.2.2.1 hE.2.1 hst.1 hst.2.1 hst.2.2 q0 he rfl 8 (by decide) (hE.1.2.2.2.2 _ wk_1_118) (fun _ h => h) rfl hin rfl (ty := .array .long) (by decide +kernel) hn hx hlen hdg (fun H1 l1 g1 g2 g3 => kk H1 l1 ⟨g1, g2, g3⟩)
theorem gf_X0_42 (hE : EV p m c cc nL s args RX0 D cI cJ cZ A) (hst : SS D A s ws H locs) (q0 : Nat) (he : ws[q0]? = some (a, .inr (0, fs))) (hv : fs[9]? = some v) (hdg : decode cc pc = .ok (.getfield 42, 3)) (kk : W p l e R s m args below meth c H locs cells slots Q (F0 m (pc + 3) ls (v :: rest))) : W p l e R s m args below meth c H locs cells slots Q (F0 m pc ls (.ref a :: rest)) :=
  va_get (T := TX0) (N := 10) hE.1.1 hE.1.2.1 hE.1.2.2.2.2 inG0 hE.1.2.2.2.1 hE.2.1 hst.1 q0 he rfl 9 (by decide) (hE.1.2.2.2.2 _ wk_1_119) (fun _ h => h) hv hdg kk
theorem pf_X0_42 (hE : EV p m c cc nL s args RX0 D cI cJ cZ A) (hst : SS D A s ws H locs) (q0 : Nat) (he : ws[q0]? = some (a, .inr (0, fs))) (hx : fits (.int) v = true) (hn : narrow (.int) v = v) (hlen : 9 < fs.length) (ws' : va_W) (hws : ws.set q0 (a, .inr (0, fs.set 9 v)) = ws') (hdg : decode cc pc = .ok (.putfield 42, 3)) (kk : ∀ (H1 : Heap) (locs1 : List Loc), SS D A s ws' H1 locs1 → W p l e R s m args below meth c H1 locs1 cells slots Q (F0 m (pc + 3) ls rest)) : W p l e R s m args below meth c H locs cells slots Q (F0 m pc ls (v :: .ref a :: rest)) := by
  subst hws
  exact va_put (T := TX0) (N := 10) hE.1.1 hE.1.2.1 hE.1.2.2.2.2 inG0 tyX0 tyX0_ok nmX0 hE.1.2.2.2.1 hE.2.1 hst.1 hst.2.1 hst.2.2 q0 he rfl 9 (by decide) (hE.1.2.2.2.2 _ wk_1_119) (fun _ h => h) rfl (ty := .int) (by decide +kernel) hn hx hlen hdg (fun H1 l1 g1 g2 g3 => kk H1 l1 ⟨g1, g2, g3⟩)
theorem gf_X2_9 (hE : EV p m c cc nL s args RX2 D cI cJ cZ A) (hst : SS D A s ws H locs) (q0 : Nat) (he : ws[q0]? = some (a, .inr (2, fs))) (hv : fs[0]? = some v) (hdg : decode cc pc = .ok (.getfield 9, 3)) (kk : W p l e R s m args below meth c H locs cells slots Q (F0 m (pc + 3) ls (v :: rest))) : W p l e R s m args below meth c H locs cells slots Q (F0 m pc ls (.ref a :: rest)) :=
  va_get (T := TX2) (N := 4) hE.1.1 hE.1.2.1 hE.1.2.2.2.2 inG2 hE.1.2.2.2.1 hE.2.1 hst.1 q0 he rfl 0 (by decide) (hE.1.2.2.2.2 _ wk_1_148) (fun _ h => h) hv hdg kk
theorem pf_X2_9 (hE : EV p m c cc nL s args RX2 D cI cJ cZ A) (hst : SS D A s ws H locs) (q0 : Nat) (he : ws[q0]? = some (a, .inr (2, fs))) (hin : meth.name = "<init>") (hx : fits (.array .int) v = true) (hn : narrow (.array .int) v = v) (hlen : 0 < fs.length) (ws' : va_W) (hws : ws.set q0 (a, .inr (2, fs.set 0 v)) = ws') (hdg : decode cc pc = .ok (.putfield 9, 3)) (kk : ∀ (H1 : Heap) (locs1 : List Loc), SS D A s ws' H1 locs1 → W p l e R s m args below meth c H1 locs1 cells slots Q (F0 m (pc + 3) ls rest)) : W p l e R s m args below meth c H locs cells slots Q (F0 m pc ls (v :: .ref a :: rest)) := by
  subst hws
  exact va_putF (T := TX2) (N := 4) hE.1.1 hE.1.2.1 hE.1.2.2.2.2 inG2 tyX2 tyX2_ok nmX2 hE.1.2.2.2.1 hE.2.1 hst.1 hst.2.1 hst.2.2 q0 he rfl 0 (by decide) (hE.1.2.2.2.2 _ wk_1_148) (fun _ h => h) rfl hin rfl (ty := .array .int) (by decide +kernel) hn hx hlen hdg (fun H1 l1 g1 g2 g3 => kk H1 l1 ⟨g1, g2, g3⟩)
theorem gf_X2_15 (hE : EV p m c cc nL s args RX2 D cI cJ cZ A) (hst : SS D A s ws H locs) (q0 : Nat) (he : ws[q0]? = some (a, .inr (2, fs))) (hv : fs[1]? = some v) (hdg : decode cc pc = .ok (.getfield 15, 3)) (kk : W p l e R s m args below meth c H locs cells slots Q (F0 m (pc + 3) ls (v :: rest))) : W p l e R s m args below meth c H locs cells slots Q (F0 m pc ls (.ref a :: rest)) :=
  va_get (T := TX2) (N := 4) hE.1.1 hE.1.2.1 hE.1.2.2.2.2 inG2 hE.1.2.2.2.1 hE.2.1 hst.1 q0 he rfl 1 (by decide) (hE.1.2.2.2.2 _ wk_1_149) (fun _ h => h) hv hdg kk
theorem pf_X2_15 (hE : EV p m c cc nL s args RX2 D cI cJ cZ A) (hst : SS D A s ws H locs) (q0 : Nat) (he : ws[q0]? = some (a, .inr (2, fs))) (hin : meth.name = "<init>") (hx : fits (.array .int) v = true) (hn : narrow (.array .int) v = v) (hlen : 1 < fs.length) (ws' : va_W) (hws : ws.set q0 (a, .inr (2, fs.set 1 v)) = ws') (hdg : decode cc pc = .ok (.putfield 15, 3)) (kk : ∀ (H1 : Heap) (locs1 : List Loc), SS D A s ws' H1 locs1 → W p l e R s m args below meth c H1 locs1 cells slots Q (F0 m (pc + 3) ls rest)) : W p l e R s m args below meth c H locs cells slots Q (F0 m pc ls (v :: .ref a :: rest)) := by
  subst hws
  exact va_putF (T := TX2) (N := 4) hE.1.1 hE.1.2.1 hE.1.2.2.2.2 inG2 tyX2 tyX2_ok nmX2 hE.1.2.2.2.1 hE.2.1 hst.1 hst.2.1 hst.2.2 q0 he rfl 1 (by decide) (hE.1.2.2.2.2 _ wk_1_149) (fun _ h => h) rfl hin rfl (ty := .array .int) (by decide +kernel) hn hx hlen hdg (fun H1 l1 g1 g2 g3 => kk H1 l1 ⟨g1, g2, g3⟩)
theorem gf_X2_18 (hE : EV p m c cc nL s args RX2 D cI cJ cZ A) (hst : SS D A s ws H locs) (q0 : Nat) (he : ws[q0]? = some (a, .inr (2, fs))) (hv : fs[2]? = some v) (hdg : decode cc pc = .ok (.getfield 18, 3)) (kk : W p l e R s m args below meth c H locs cells slots Q (F0 m (pc + 3) ls (v :: rest))) : W p l e R s m args below meth c H locs cells slots Q (F0 m pc ls (.ref a :: rest)) :=
  va_get (T := TX2) (N := 4) hE.1.1 hE.1.2.1 hE.1.2.2.2.2 inG2 hE.1.2.2.2.1 hE.2.1 hst.1 q0 he rfl 2 (by decide) (hE.1.2.2.2.2 _ wk_1_150) (fun _ h => h) hv hdg kk
theorem pf_X2_18 (hE : EV p m c cc nL s args RX2 D cI cJ cZ A) (hst : SS D A s ws H locs) (q0 : Nat) (he : ws[q0]? = some (a, .inr (2, fs))) (hin : meth.name = "<init>") (hx : fits (.array .int) v = true) (hn : narrow (.array .int) v = v) (hlen : 2 < fs.length) (ws' : va_W) (hws : ws.set q0 (a, .inr (2, fs.set 2 v)) = ws') (hdg : decode cc pc = .ok (.putfield 18, 3)) (kk : ∀ (H1 : Heap) (locs1 : List Loc), SS D A s ws' H1 locs1 → W p l e R s m args below meth c H1 locs1 cells slots Q (F0 m (pc + 3) ls rest)) : W p l e R s m args below meth c H locs cells slots Q (F0 m pc ls (v :: .ref a :: rest)) := by
  subst hws
  exact va_putF (T := TX2) (N := 4) hE.1.1 hE.1.2.1 hE.1.2.2.2.2 inG2 tyX2 tyX2_ok nmX2 hE.1.2.2.2.1 hE.2.1 hst.1 hst.2.1 hst.2.2 q0 he rfl 2 (by decide) (hE.1.2.2.2.2 _ wk_1_150) (fun _ h => h) rfl hin rfl (ty := .array .int) (by decide +kernel) hn hx hlen hdg (fun H1 l1 g1 g2 g3 => kk H1 l1 ⟨g1, g2, g3⟩)
theorem gf_X2_21 (hE : EV p m c cc nL s args RX2 D cI cJ cZ A) (hst : SS D A s ws H locs) (q0 : Nat) (he : ws[q0]? = some (a, .inr (2, fs))) (hv : fs[3]? = some v) (hdg : decode cc pc = .ok (.getfield 21, 3)) (kk : W p l e R s m args below meth c H locs cells slots Q (F0 m (pc + 3) ls (v :: rest))) : W p l e R s m args below meth c H locs cells slots Q (F0 m pc ls (.ref a :: rest)) :=
  va_get (T := TX2) (N := 4) hE.1.1 hE.1.2.1 hE.1.2.2.2.2 inG2 hE.1.2.2.2.1 hE.2.1 hst.1 q0 he rfl 3 (by decide) (hE.1.2.2.2.2 _ wk_1_151) (fun _ h => h) hv hdg kk
theorem pf_X2_21 (hE : EV p m c cc nL s args RX2 D cI cJ cZ A) (hst : SS D A s ws H locs) (q0 : Nat) (he : ws[q0]? = some (a, .inr (2, fs))) (hx : fits (.int) v = true) (hn : narrow (.int) v = v) (hlen : 3 < fs.length) (ws' : va_W) (hws : ws.set q0 (a, .inr (2, fs.set 3 v)) = ws') (hdg : decode cc pc = .ok (.putfield 21, 3)) (kk : ∀ (H1 : Heap) (locs1 : List Loc), SS D A s ws' H1 locs1 → W p l e R s m args below meth c H1 locs1 cells slots Q (F0 m (pc + 3) ls rest)) : W p l e R s m args below meth c H locs cells slots Q (F0 m pc ls (v :: .ref a :: rest)) := by
  subst hws
  exact va_put (T := TX2) (N := 4) hE.1.1 hE.1.2.1 hE.1.2.2.2.2 inG2 tyX2 tyX2_ok nmX2 hE.1.2.2.2.1 hE.2.1 hst.1 hst.2.1 hst.2.2 q0 he rfl 3 (by decide) (hE.1.2.2.2.2 _ wk_1_151) (fun _ h => h) rfl (ty := .int) (by decide +kernel) hn hx hlen hdg (fun H1 l1 g1 g2 g3 => kk H1 l1 ⟨g1, g2, g3⟩)
theorem gf_X6_65 (hE : EV p m c cc nL s args RX6 D cI cJ cZ A) (hst : SS D A s ws H locs) (q0 : Nat) (he : ws[q0]? = some (a, .inr (2, fs))) (hv : fs[3]? = some v) (hdg : decode cc pc = .ok (.getfield 65, 3)) (kk : W p l e R s m args below meth c H locs cells slots Q (F0 m (pc + 3) ls (v :: rest))) : W p l e R s m args below meth c H locs cells slots Q (F0 m pc ls (.ref a :: rest)) :=
  va_getN (T := TX2) (N := 4) hE.1.1 hE.1.2.1 hE.1.2.2.2.2 inG2 hE.1.2.2.2.1 hE.2.1 hst.1 q0 he rfl 3 (by decide) (va_Nw.use rfl (hE.2.2.1.1 _ wk_1_152)) (fun _ h => h) hv hdg kk
theorem pf_X6_65 (hE : EV p m c cc nL s args RX6 D cI cJ cZ A) (hst : SS D A s ws H locs) (q0 : Nat) (he : ws[q0]? = some (a, .inr (2, fs))) (hx : fits (.int) v = true) (hn : narrow (.int) v = v) (hlen : 3 < fs.length) (ws' : va_W) (hws : ws.set q0 (a, .inr (2, fs.set 3 v)) = ws') (hdg : decode cc pc = .ok (.putfield 65, 3)) (kk : ∀ (H1 : Heap) (locs1 : List Loc), SS D A s ws' H1 locs1 → W p l e R s m args below meth c H1 locs1 cells slots Q (F0 m (pc + 3) ls rest)) : W p l e R s m args below meth c H locs cells slots Q (F0 m pc ls (v :: .ref a :: rest)) := by
  subst hws
  exact va_putN (T := TX2) (N := 4) hE.1.1 hE.1.2.1 hE.1.2.2.2.2 inG2 tyX2 tyX2_ok nmX2 hE.1.2.2.2.1 hE.2.1 hst.1 hst.2.1 hst.2.2 q0 he rfl 3 (by decide) (va_Nw.use rfl (hE.2.2.1.1 _ wk_1_152)) (fun _ h => h) rfl (ty := .int) (by decide +kernel) hn hx hlen hdg (fun H1 l1 g1 g2 g3 => kk H1 l1 ⟨g1, g2, g3⟩)
theorem gf_X1_98 (hE : EV p m c cc nL s args RX1 D cI cJ cZ A) (hst : SS D A s ws H locs) (q0 : Nat) (he : ws[q0]? = some (a, .inr (2, fs))) (hv : fs[3]? = some v) (hdg : decode cc pc = .ok (.getfield 98, 3)) (kk : W p l e R s m args below meth c H locs cells slots Q (F0 m (pc + 3) ls (v :: rest))) : W p l e R s m args below meth c H locs cells slots Q (F0 m pc ls (.ref a :: rest)) :=
  va_getN (T := TX2) (N := 4) hE.1.1 hE.1.2.1 hE.1.2.2.2.2 inG2 hE.1.2.2.2.1 hE.2.1 hst.1 q0 he rfl 3 (by decide) (va_Nw.use rfl (hE.2.2.1.1 _ wk_1_153)) (fun _ h => h) hv hdg kk
theorem pf_X1_98 (hE : EV p m c cc nL s args RX1 D cI cJ cZ A) (hst : SS D A s ws H locs) (q0 : Nat) (he : ws[q0]? = some (a, .inr (2, fs))) (hx : fits (.int) v = true) (hn : narrow (.int) v = v) (hlen : 3 < fs.length) (ws' : va_W) (hws : ws.set q0 (a, .inr (2, fs.set 3 v)) = ws') (hdg : decode cc pc = .ok (.putfield 98, 3)) (kk : ∀ (H1 : Heap) (locs1 : List Loc), SS D A s ws' H1 locs1 → W p l e R s m args below meth c H1 locs1 cells slots Q (F0 m (pc + 3) ls rest)) : W p l e R s m args below meth c H locs cells slots Q (F0 m pc ls (v :: .ref a :: rest)) := by
  subst hws
  exact va_putN (T := TX2) (N := 4) hE.1.1 hE.1.2.1 hE.1.2.2.2.2 inG2 tyX2 tyX2_ok nmX2 hE.1.2.2.2.1 hE.2.1 hst.1 hst.2.1 hst.2.2 q0 he rfl 3 (by decide) (va_Nw.use rfl (hE.2.2.1.1 _ wk_1_153)) (fun _ h => h) rfl (ty := .int) (by decide +kernel) hn hx hlen hdg (fun H1 l1 g1 g2 g3 => kk H1 l1 ⟨g1, g2, g3⟩)
theorem gf_X4_7 (hE : EV p m c cc nL s args RX4 D cI cJ cZ A) (hst : SS D A s ws H locs) (q0 : Nat) (he : ws[q0]? = some (a, .inr (4, fs))) (hv : fs[0]? = some v) (hdg : decode cc pc = .ok (.getfield 7, 3)) (kk : W p l e R s m args below meth c H locs cells slots Q (F0 m (pc + 3) ls (v :: rest))) : W p l e R s m args below meth c H locs cells slots Q (F0 m pc ls (.ref a :: rest)) :=
  va_get (T := TX4) (N := 4) hE.1.1 hE.1.2.1 hE.1.2.2.2.2 inG4 hE.1.2.2.2.1 hE.2.1 hst.1 q0 he rfl 0 (by decide) (hE.1.2.2.2.2 _ wk_1_178) (fun _ h => h) hv hdg kk
theorem pf_X4_7 (hE : EV p m c cc nL s args RX4 D cI cJ cZ A) (hst : SS D A s ws H locs) (q0 : Nat) (he : ws[q0]? = some (a, .inr (4, fs))) (hx : fits (.long) v = true) (hn : narrow (.long) v = v) (hlen : 0 < fs.length) (ws' : va_W) (hws : ws.set q0 (a, .inr (4, fs.set 0 v)) = ws') (hdg : decode cc pc = .ok (.putfield 7, 3)) (kk : ∀ (H1 : Heap) (locs1 : List Loc), SS D A s ws' H1 locs1 → W p l e R s m args below meth c H1 locs1 cells slots Q (F0 m (pc + 3) ls rest)) : W p l e R s m args below meth c H locs cells slots Q (F0 m pc ls (v :: .ref a :: rest)) := by
  subst hws
  exact va_put (T := TX4) (N := 4) hE.1.1 hE.1.2.1 hE.1.2.2.2.2 inG4 tyX4 tyX4_ok nmX4 hE.1.2.2.2.1 hE.2.1 hst.1 hst.2.1 hst.2.2 q0 he rfl 0 (by decide) (hE.1.2.2.2.2 _ wk_1_178) (fun _ h => h) rfl (ty := .long) (by decide +kernel) hn hx hlen hdg (fun H1 l1 g1 g2 g3 => kk H1 l1 ⟨g1, g2, g3⟩)
theorem gf_X4_13 (hE : EV p m c cc nL s args RX4 D cI cJ cZ A) (hst : SS D A s ws H locs) (q0 : Nat) (he : ws[q0]? = some (a, .inr (4, fs))) (hv : fs[1]? = some v) (hdg : decode cc pc = .ok (.getfield 13, 3)) (kk : W p l e R s m args below meth c H locs cells slots Q (F0 m (pc + 3) ls (v :: rest))) : W p l e R s m args below meth c H locs cells slots Q (F0 m pc ls (.ref a :: rest)) :=
  va_get (T := TX4) (N := 4) hE.1.1 hE.1.2.1 hE.1.2.2.2.2 inG4 hE.1.2.2.2.1 hE.2.1 hst.1 q0 he rfl 1 (by decide) (hE.1.2.2.2.2 _ wk_1_179) (fun _ h => h) hv hdg kk
theorem pf_X4_13 (hE : EV p m c cc nL s args RX4 D cI cJ cZ A) (hst : SS D A s ws H locs) (q0 : Nat) (he : ws[q0]? = some (a, .inr (4, fs))) (hx : fits (.long) v = true) (hn : narrow (.long) v = v) (hlen : 1 < fs.length) (ws' : va_W) (hws : ws.set q0 (a, .inr (4, fs.set 1 v)) = ws') (hdg : decode cc pc = .ok (.putfield 13, 3)) (kk : ∀ (H1 : Heap) (locs1 : List Loc), SS D A s ws' H1 locs1 → W p l e R s m args below meth c H1 locs1 cells slots Q (F0 m (pc + 3) ls rest)) : W p l e R s m args below meth c H locs cells slots Q (F0 m pc ls (v :: .ref a :: rest)) := by
  subst hws
  exact va_put (T := TX4) (N := 4) hE.1.1 hE.1.2.1 hE.1.2.2.2.2 inG4 tyX4 tyX4_ok nmX4 hE.1.2.2.2.1 hE.2.1 hst.1 hst.2.1 hst.2.2 q0 he rfl 1 (by decide) (hE.1.2.2.2.2 _ wk_1_179) (fun _ h => h) rfl (ty := .long) (by decide +kernel) hn hx hlen hdg (fun H1 l1 g1 g2 g3 => kk H1 l1 ⟨g1, g2, g3⟩)
theorem gf_X4_16 (hE : EV p m c cc nL s args RX4 D cI cJ cZ A) (hst : SS D A s ws H locs) (q0 : Nat) (he : ws[q0]? = some (a, .inr (4, fs))) (hv : fs[2]? = some v) (hdg : decode cc pc = .ok (.getfield 16, 3)) (kk : W p l e R s m args below meth c H locs cells slots Q (F0 m (pc + 3) ls (v :: rest))) : W p l e R s m args below meth c H locs cells slots Q (F0 m pc ls (.ref a :: rest)) :=
  va_get (T := TX4) (N := 4) hE.1.1 hE.1.2.1 hE.1.2.2.2.2 inG4 hE.1.2.2.2.1 hE.2.1 hst.1 q0 he rfl 2 (by decide) (hE.1.2.2.2.2 _ wk_1_180) (fun _ h => h) hv hdg kk
theorem pf_X4_16 (hE : EV p m c cc nL s args RX4 D cI cJ cZ A) (hst : SS D A s ws H locs) (q0 : Nat) (he : ws[q0]? = some (a, .inr (4, fs))) (hx : fits (.int) v = true) (hn : narrow (.int) v = v) (hlen : 2 < fs.length) (ws' : va_W) (hws : ws.set q0 (a, .inr (4, fs.set 2 v)) = ws') (hdg : decode cc pc = .ok (.putfield 16, 3)) (kk : ∀ (H1 : Heap) (locs1 : List Loc), SS D A s ws' H1 locs1 → W p l e R s m args below meth c H1 locs1 cells slots Q (F0 m (pc + 3) ls rest)) : W p l e R s m args below meth c H locs cells slots Q (F0 m pc ls (v :: .ref a :: rest)) := by
  subst hws
  exact va_put (T := TX4) (N := 4) hE.1.1 hE.1.2.1 hE.1.2.2.2.2 inG4 tyX4 tyX4_ok nmX4 hE.1.2.2.2.1 hE.2.1 hst.1 hst.2.1 hst.2.2 q0 he rfl 2 (by decide) (hE.1.2.2.2.2 _ wk_1_180) (fun _ h => h) rfl (ty := .int) (by decide +kernel) hn hx hlen hdg (fun H1 l1 g1 g2 g3 => kk H1 l1 ⟨g1, g2, g3⟩)
theorem gf_X4_20 (hE : EV p m c cc nL s args RX4 D cI cJ cZ A) (hst : SS D A s ws H locs) (q0 : Nat) (he : ws[q0]? = some (a, .inr (4, fs))) (hv : fs[3]? = some v) (hdg : decode cc pc = .ok (.getfield 20, 3)) (kk : W p l e R s m args below meth c H locs cells slots Q (F0 m (pc + 3) ls (v :: rest))) : W p l e R s m args below meth c H locs cells slots Q (F0 m pc ls (.ref a :: rest)) :=
  va_get (T := TX4) (N := 4) hE.1.1 hE.1.2.1 hE.1.2.2.2.2 inG4 hE.1.2.2.2.1 hE.2.1 hst.1 q0 he rfl 3 (by decide) (hE.1.2.2.2.2 _ wk_1_181) (fun _ h => h) hv hdg kk
theorem pf_X4_20 (hE : EV p m c cc nL s args RX4 D cI cJ cZ A) (hst : SS D A s ws H locs) (q0 : Nat) (he : ws[q0]? = some (a, .inr (4, fs))) (hx : fits (.int) v = true) (hn : narrow (.int) v = v) (hlen : 3 < fs.length) (ws' : va_W) (hws : ws.set q0 (a, .inr (4, fs.set 3 v)) = ws') (hdg : decode cc pc = .ok (.putfield 20, 3)) (kk : ∀ (H1 : Heap) (locs1 : List Loc), SS D A s ws' H1 locs1 → W p l e R s m args below meth c H1 locs1 cells slots Q (F0 m (pc + 3) ls rest)) : W p l e R s m args below meth c H locs cells slots Q (F0 m pc ls (v :: .ref a :: rest)) := by
  subst hws
  exact va_put (T := TX4) (N := 4) hE.1.1 hE.1.2.1 hE.1.2.2.2.2 inG4 tyX4 tyX4_ok nmX4 hE.1.2.2.2.1 hE.2.1 hst.1 hst.2.1 hst.2.2 q0 he rfl 3 (by decide) (hE.1.2.2.2.2 _ wk_1_181) (fun _ h => h) rfl (ty := .int) (by decide +kernel) hn hx hlen hdg (fun H1 l1 g1 g2 g3 => kk H1 l1 ⟨g1, g2, g3⟩)
theorem gf_X3_7 (hE : EV p m c cc nL s args RX3 D cI cJ cZ A) (hst : SS D A s ws H locs) (q0 : Nat) (he : ws[q0]? = some (a, .inr (3, fs))) (hv : fs[0]? = some v) (hdg : decode cc pc = .ok (.getfield 7, 3)) (kk : W p l e R s m args below meth c H locs cells slots Q (F0 m (pc + 3) ls (v :: rest))) : W p l e R s m args below meth c H locs cells slots Q (F0 m pc ls (.ref a :: rest)) :=
  va_get (T := TX3) (N := 2) hE.1.1 hE.1.2.1 hE.1.2.2.2.2 inG3 hE.1.2.2.2.1 hE.2.1 hst.1 q0 he rfl 0 (by decide) (hE.1.2.2.2.2 _ wk_1_197) (fun _ h => h) hv hdg kk
theorem pf_X3_7 (hE : EV p m c cc nL s args RX3 D cI cJ cZ A) (hst : SS D A s ws H locs) (q0 : Nat) (he : ws[q0]? = some (a, .inr (3, fs))) (hx : fits (.long) v = true) (hn : narrow (.long) v = v) (hlen : 0 < fs.length) (ws' : va_W) (hws : ws.set q0 (a, .inr (3, fs.set 0 v)) = ws') (hdg : decode cc pc = .ok (.putfield 7, 3)) (kk : ∀ (H1 : Heap) (locs1 : List Loc), SS D A s ws' H1 locs1 → W p l e R s m args below meth c H1 locs1 cells slots Q (F0 m (pc + 3) ls rest)) : W p l e R s m args below meth c H locs cells slots Q (F0 m pc ls (v :: .ref a :: rest)) := by
  subst hws
  exact va_put (T := TX3) (N := 2) hE.1.1 hE.1.2.1 hE.1.2.2.2.2 inG3 tyX3 tyX3_ok nmX3 hE.1.2.2.2.1 hE.2.1 hst.1 hst.2.1 hst.2.2 q0 he rfl 0 (by decide) (hE.1.2.2.2.2 _ wk_1_197) (fun _ h => h) rfl (ty := .long) (by decide +kernel) hn hx hlen hdg (fun H1 l1 g1 g2 g3 => kk H1 l1 ⟨g1, g2, g3⟩)
theorem gf_X1_146 (hE : EV p m c cc nL s args RX1 D cI cJ cZ A) (hst : SS D A s ws H locs) (q0 : Nat) (he : ws[q0]? = some (a, .inr (3, fs))) (hv : fs[0]? = some v) (hdg : decode cc pc = .ok (.getfield 146, 3)) (kk : W p l e R s m args below meth c H locs cells slots Q (F0 m (pc + 3) ls (v :: rest))) : W p l e R s m args below meth c H locs cells slots Q (F0 m pc ls (.ref a :: rest)) :=
  va_getN (T := TX3) (N := 2) hE.1.1 hE.1.2.1 hE.1.2.2.2.2 inG3 hE.1.2.2.2.1 hE.2.1 hst.1 q0 he rfl 0 (by decide) (va_Nw.use rfl (hE.2.2.1.1 _ wk_1_198)) (fun _ h => h) hv hdg kk
theorem pf_X1_146 (hE : EV p m c cc nL s args RX1 D cI cJ cZ A) (hst : SS D A s ws H locs) (q0 : Nat) (he : ws[q0]? = some (a, .inr (3, fs))) (hx : fits (.long) v = true) (hn : narrow (.long) v = v) (hlen : 0 < fs.length) (ws' : va_W) (hws : ws.set q0 (a, .inr (3, fs.set 0 v)) = ws') (hdg : decode cc pc = .ok (.putfield 146, 3)) (kk : ∀ (H1 : Heap) (locs1 : List Loc), SS D A s ws' H1 locs1 → W p l e R s m args below meth c H1 locs1 cells slots Q (F0 m (pc + 3) ls rest)) : W p l e R s m args below meth c H locs cells slots Q (F0 m pc ls (v :: .ref a :: rest)) := by
  subst hws
  exact va_putN (T := TX3) (N := 2) hE.1.1 hE.1.2.1 hE.1.2.2.2.2 inG3 tyX3 tyX3_ok nmX3 hE.1.2.2.2.1 hE.2.1 hst.1 hst.2.1 hst.2.2 q0 he rfl 0 (by decide) (va_Nw.use rfl (hE.2.2.1.1 _ wk_1_198)) (fun _ h => h) rfl (ty := .long) (by decide +kernel) hn hx hlen hdg (fun H1 l1 g1 g2 g3 => kk H1 l1 ⟨g1, g2, g3⟩)
theorem gf_X3_13 (hE : EV p m c cc nL s args RX3 D cI cJ cZ A) (hst : SS D A s ws H locs) (q0 : Nat) (he : ws[q0]? = some (a, .inr (3, fs))) (hv : fs[1]? = some v) (hdg : decode cc pc = .ok (.getfield 13, 3)) (kk : W p l e R s m args below meth c H locs cells slots Q (F0 m (pc + 3) ls (v :: rest))) : W p l e R s m args below meth c H locs cells slots Q (F0 m pc ls (.ref a :: rest)) :=
  va_get (T := TX3) (N := 2) hE.1.1 hE.1.2.1 hE.1.2.2.2.2 inG3 hE.1.2.2.2.1 hE.2.1 hst.1 q0 he rfl 1 (by decide) (hE.1.2.2.2.2 _ wk_1_199) (fun _ h => h) hv hdg kk
theorem pf_X3_13 (hE : EV p m c cc nL s args RX3 D cI cJ cZ A) (hst : SS D A s ws H locs) (q0 : Nat) (he : ws[q0]? = some (a, .inr (3, fs))) (hx : fits (.long) v = true) (hn : narrow (.long) v = v) (hlen : 1 < fs.length) (ws' : va_W) (hws : ws.set q0 (a, .inr (3, fs.set 1 v)) = ws') (hdg : decode cc pc = .ok (.putfield 13, 3)) (kk : ∀ (H1 : Heap) (locs1 : List Loc), SS D A s ws' H1 locs1 → W p l e R s m args below meth c H1 locs1 cells slots Q (F0 m (pc + 3) ls rest)) : W p l e R s m args below meth c H locs cells slots Q (F0 m pc ls (v :: .ref a :: rest)) := by
  subst hws
  exact va_put (T := TX3) (N := 2) hE.1.1 hE.1.2.1 hE.1.2.2.2.2 inG3 tyX3 tyX3_ok nmX3 hE.1.2.2.2.1 hE.2.1 hst.1 hst.2.1 hst.2.2 q0 he rfl 1 (by decide) (hE.1.2.2.2.2 _ wk_1_199) (fun _ h => h) rfl (ty := .long) (by decide +kernel) hn hx hlen hdg (fun H1 l1 g1 g2 g3 => kk H1 l1 ⟨g1, g2, g3⟩)
theorem gf_X1_154 (hE : EV p m c cc nL s args RX1 D cI cJ cZ A) (hst : SS D A s ws H locs) (q0 : Nat) (he : ws[q0]? = some (a, .inr (3, fs))) (hv : fs[1]? = some v) (hdg : decode cc pc = .ok (.getfield 154, 3)) (kk : W p l e R s m args below meth c H locs cells slots Q (F0 m (pc + 3) ls (v :: rest))) : W p l e R s m args below meth c H locs cells slots Q (F0 m pc ls (.ref a :: rest)) :=
  va_getN (T := TX3) (N := 2) hE.1.1 hE.1.2.1 hE.1.2.2.2.2 inG3 hE.1.2.2.2.1 hE.2.1 hst.1 q0 he rfl 1 (by decide) (va_Nw.use rfl (hE.2.2.1.1 _ wk_1_200)) (fun _ h => h) hv hdg kk
theorem pf_X1_154 (hE : EV p m c cc nL s args RX1 D cI cJ cZ A) (hst : SS D A s ws H locs) (q0 : Nat) (he : ws[q0]? = some (a, .inr (3, fs))) (hx : fits (.long) v = true) (hn : narrow (.long) v = v) (hlen : 1 < fs.length) (ws' : va_W) (hws : ws.set q0 (a, .inr (3, fs.set 1 v)) = ws') (hdg : decode cc pc = .ok (.putfield 154, 3)) (kk : ∀ (H1 : Heap) (locs1 : List Loc), SS D A s ws' H1 locs1 → W p l e R s m args below meth c H1 locs1 cells slots Q (F0 m (pc + 3) ls rest)) : W p l e R s m args below meth c H locs cells slots Q (F0 m pc ls (v :: .ref a :: rest)) := by
  subst hws
  exact va_putN (T := TX3) (N := 2) hE.1.1 hE.1.2.1 hE.1.2.2.2.2 inG3 tyX3 tyX3_ok nmX3 hE.1.2.2.2.1 hE.2.1 hst.1 hst.2.1 hst.2.2 q0 he rfl 1 (by decide) (va_Nw.use rfl (hE.2.2.1.1 _ wk_1_200)) (fun _ h => h) rfl (ty := .long) (by decide +kernel) hn hx hlen hdg (fun H1 l1 g1 g2 g3 => kk H1 l1 ⟨g1, g2, g3⟩)
theorem gf_X1_12 (hE : EV p m c cc nL s args RX1 D cI cJ cZ A) (hst : SS D A s ws H locs) (q0 : Nat) (he : ws[q0]? = some (a, .inr (1, fs))) (hv : fs[0]? = some v) (hdg : decode cc pc = .ok (.getfield 12, 3)) (kk : W p l e R s m args below meth c H locs cells slots Q (F0 m (pc + 3) ls (v :: rest))) : W p l e R s m args below meth c H locs cells slots Q (F0 m pc ls (.ref a :: rest)) :=
  va_get (T := TX1) (N := 8) hE.1.1 hE.1.2.1 hE.1.2.2.2.2 inG1 hE.1.2.2.2.1 hE.2.1 hst.1 q0 he rfl 0 (by decide) (hE.1.2.2.2.2 _ wk_1_206) (fun _ h => h) hv hdg kk
theorem pf_X1_12 (hE : EV p m c cc nL s args RX1 D cI cJ cZ A) (hst : SS D A s ws H locs) (q0 : Nat) (he : ws[q0]? = some (a, .inr (1, fs))) (hin : meth.name = "<init>") (hx : fits (.object "GlassJar$Jar") v = true) (hn : narrow (.object "GlassJar$Jar") v = v) (hlen : 0 < fs.length) (ws' : va_W) (hws : ws.set q0 (a, .inr (1, fs.set 0 v)) = ws') (hdg : decode cc pc = .ok (.putfield 12, 3)) (kk : ∀ (H1 : Heap) (locs1 : List Loc), SS D A s ws' H1 locs1 → W p l e R s m args below meth c H1 locs1 cells slots Q (F0 m (pc + 3) ls rest)) : W p l e R s m args below meth c H locs cells slots Q (F0 m pc ls (v :: .ref a :: rest)) := by
  subst hws
  exact va_putF (T := TX1) (N := 8) hE.1.1 hE.1.2.1 hE.1.2.2.2.2 inG1 tyX1 tyX1_ok nmX1 hE.1.2.2.2.1 hE.2.1 hst.1 hst.2.1 hst.2.2 q0 he rfl 0 (by decide) (hE.1.2.2.2.2 _ wk_1_206) (fun _ h => h) rfl hin rfl (ty := .object "GlassJar$Jar") (by decide +kernel) hn hx hlen hdg (fun H1 l1 g1 g2 g3 => kk H1 l1 ⟨g1, g2, g3⟩)
theorem gf_X1_18 (hE : EV p m c cc nL s args RX1 D cI cJ cZ A) (hst : SS D A s ws H locs) (q0 : Nat) (he : ws[q0]? = some (a, .inr (1, fs))) (hv : fs[1]? = some v) (hdg : decode cc pc = .ok (.getfield 18, 3)) (kk : W p l e R s m args below meth c H locs cells slots Q (F0 m (pc + 3) ls (v :: rest))) : W p l e R s m args below meth c H locs cells slots Q (F0 m pc ls (.ref a :: rest)) :=
  va_get (T := TX1) (N := 8) hE.1.1 hE.1.2.1 hE.1.2.2.2.2 inG1 hE.1.2.2.2.1 hE.2.1 hst.1 q0 he rfl 1 (by decide) (hE.1.2.2.2.2 _ wk_1_207) (fun _ h => h) hv hdg kk
theorem pf_X1_18 (hE : EV p m c cc nL s args RX1 D cI cJ cZ A) (hst : SS D A s ws H locs) (q0 : Nat) (he : ws[q0]? = some (a, .inr (1, fs))) (hin : meth.name = "<init>") (hx : fits (.object "GlassJar$Jar") v = true) (hn : narrow (.object "GlassJar$Jar") v = v) (hlen : 1 < fs.length) (ws' : va_W) (hws : ws.set q0 (a, .inr (1, fs.set 1 v)) = ws') (hdg : decode cc pc = .ok (.putfield 18, 3)) (kk : ∀ (H1 : Heap) (locs1 : List Loc), SS D A s ws' H1 locs1 → W p l e R s m args below meth c H1 locs1 cells slots Q (F0 m (pc + 3) ls rest)) : W p l e R s m args below meth c H locs cells slots Q (F0 m pc ls (v :: .ref a :: rest)) := by
  subst hws
  exact va_putF (T := TX1) (N := 8) hE.1.1 hE.1.2.1 hE.1.2.2.2.2 inG1 tyX1 tyX1_ok nmX1 hE.1.2.2.2.1 hE.2.1 hst.1 hst.2.1 hst.2.2 q0 he rfl 1 (by decide) (hE.1.2.2.2.2 _ wk_1_207) (fun _ h => h) rfl hin rfl (ty := .object "GlassJar$Jar") (by decide +kernel) hn hx hlen hdg (fun H1 l1 g1 g2 g3 => kk H1 l1 ⟨g1, g2, g3⟩)
theorem gf_X1_24 (hE : EV p m c cc nL s args RX1 D cI cJ cZ A) (hst : SS D A s ws H locs) (q0 : Nat) (he : ws[q0]? = some (a, .inr (1, fs))) (hv : fs[2]? = some v) (hdg : decode cc pc = .ok (.getfield 24, 3)) (kk : W p l e R s m args below meth c H locs cells slots Q (F0 m (pc + 3) ls (v :: rest))) : W p l e R s m args below meth c H locs cells slots Q (F0 m pc ls (.ref a :: rest)) :=
  va_get (T := TX1) (N := 8) hE.1.1 hE.1.2.1 hE.1.2.2.2.2 inG1 hE.1.2.2.2.1 hE.2.1 hst.1 q0 he rfl 2 (by decide) (hE.1.2.2.2.2 _ wk_1_208) (fun _ h => h) hv hdg kk
theorem pf_X1_24 (hE : EV p m c cc nL s args RX1 D cI cJ cZ A) (hst : SS D A s ws H locs) (q0 : Nat) (he : ws[q0]? = some (a, .inr (1, fs))) (hin : meth.name = "<init>") (hx : fits (.object "GlassJar$Men") v = true) (hn : narrow (.object "GlassJar$Men") v = v) (hlen : 2 < fs.length) (ws' : va_W) (hws : ws.set q0 (a, .inr (1, fs.set 2 v)) = ws') (hdg : decode cc pc = .ok (.putfield 24, 3)) (kk : ∀ (H1 : Heap) (locs1 : List Loc), SS D A s ws' H1 locs1 → W p l e R s m args below meth c H1 locs1 cells slots Q (F0 m (pc + 3) ls rest)) : W p l e R s m args below meth c H locs cells slots Q (F0 m pc ls (v :: .ref a :: rest)) := by
  subst hws
  exact va_putF (T := TX1) (N := 8) hE.1.1 hE.1.2.1 hE.1.2.2.2.2 inG1 tyX1 tyX1_ok nmX1 hE.1.2.2.2.1 hE.2.1 hst.1 hst.2.1 hst.2.2 q0 he rfl 2 (by decide) (hE.1.2.2.2.2 _ wk_1_208) (fun _ h => h) rfl hin rfl (ty := .object "GlassJar$Men") (by decide +kernel) hn hx hlen hdg (fun H1 l1 g1 g2 g3 => kk H1 l1 ⟨g1, g2, g3⟩)
theorem gf_X6_61 (hE : EV p m c cc nL s args RX6 D cI cJ cZ A) (hst : SS D A s ws H locs) (q0 : Nat) (he : ws[q0]? = some (a, .inr (1, fs))) (hv : fs[2]? = some v) (hdg : decode cc pc = .ok (.getfield 61, 3)) (kk : W p l e R s m args below meth c H locs cells slots Q (F0 m (pc + 3) ls (v :: rest))) : W p l e R s m args below meth c H locs cells slots Q (F0 m pc ls (.ref a :: rest)) :=
  va_getN (T := TX1) (N := 8) hE.1.1 hE.1.2.1 hE.1.2.2.2.2 inG1 hE.1.2.2.2.1 hE.2.1 hst.1 q0 he rfl 2 (by decide) (va_Nw.use rfl (hE.2.2.1.1 _ wk_1_209)) (fun _ h => h) hv hdg kk
theorem gf_X1_37 (hE : EV p m c cc nL s args RX1 D cI cJ cZ A) (hst : SS D A s ws H locs) (q0 : Nat) (he : ws[q0]? = some (a, .inr (1, fs))) (hv : fs[3]? = some v) (hdg : decode cc pc = .ok (.getfield 37, 3)) (kk : W p l e R s m args below meth c H locs cells slots Q (F0 m (pc + 3) ls (v :: rest))) : W p l e R s m args below meth c H locs cells slots Q (F0 m pc ls (.ref a :: rest)) :=
  va_get (T := TX1) (N := 8) hE.1.1 hE.1.2.1 hE.1.2.2.2.2 inG1 hE.1.2.2.2.1 hE.2.1 hst.1 q0 he rfl 3 (by decide) (hE.1.2.2.2.2 _ wk_1_210) (fun _ h => h) hv hdg kk
theorem pf_X1_37 (hE : EV p m c cc nL s args RX1 D cI cJ cZ A) (hst : SS D A s ws H locs) (q0 : Nat) (he : ws[q0]? = some (a, .inr (1, fs))) (hin : meth.name = "<init>") (hx : fits (.array .int) v = true) (hn : narrow (.array .int) v = v) (hlen : 3 < fs.length) (ws' : va_W) (hws : ws.set q0 (a, .inr (1, fs.set 3 v)) = ws') (hdg : decode cc pc = .ok (.putfield 37, 3)) (kk : ∀ (H1 : Heap) (locs1 : List Loc), SS D A s ws' H1 locs1 → W p l e R s m args below meth c H1 locs1 cells slots Q (F0 m (pc + 3) ls rest)) : W p l e R s m args below meth c H locs cells slots Q (F0 m pc ls (v :: .ref a :: rest)) := by
  subst hws
  exact va_putF (T := TX1) (N := 8) hE.1.1 hE.1.2.1 hE.1.2.2.2.2 inG1 tyX1 tyX1_ok nmX1 hE.1.2.2.2.1 hE.2.1 hst.1 hst.2.1 hst.2.2 q0 he rfl 3 (by decide) (hE.1.2.2.2.2 _ wk_1_210) (fun _ h => h) rfl hin rfl (ty := .array .int) (by decide +kernel) hn hx hlen hdg (fun H1 l1 g1 g2 g3 => kk H1 l1 ⟨g1, g2, g3⟩)
theorem gf_X6_168 (hE : EV p m c cc nL s args RX6 D cI cJ cZ A) (hst : SS D A s ws H locs) (q0 : Nat) (he : ws[q0]? = some (a, .inr (1, fs))) (hv : fs[3]? = some v) (hdg : decode cc pc = .ok (.getfield 168, 3)) (kk : W p l e R s m args below meth c H locs cells slots Q (F0 m (pc + 3) ls (v :: rest))) : W p l e R s m args below meth c H locs cells slots Q (F0 m pc ls (.ref a :: rest)) :=
  va_getN (T := TX1) (N := 8) hE.1.1 hE.1.2.1 hE.1.2.2.2.2 inG1 hE.1.2.2.2.1 hE.2.1 hst.1 q0 he rfl 3 (by decide) (va_Nw.use rfl (hE.2.2.1.1 _ wk_1_211)) (fun _ h => h) hv hdg kk
theorem gf_X1_40 (hE : EV p m c cc nL s args RX1 D cI cJ cZ A) (hst : SS D A s ws H locs) (q0 : Nat) (he : ws[q0]? = some (a, .inr (1, fs))) (hv : fs[4]? = some v) (hdg : decode cc pc = .ok (.getfield 40, 3)) (kk : W p l e R s m args below meth c H locs cells slots Q (F0 m (pc + 3) ls (v :: rest))) : W p l e R s m args below meth c H locs cells slots Q (F0 m pc ls (.ref a :: rest)) :=
  va_get (T := TX1) (N := 8) hE.1.1 hE.1.2.1 hE.1.2.2.2.2 inG1 hE.1.2.2.2.1 hE.2.1 hst.1 q0 he rfl 4 (by decide) (hE.1.2.2.2.2 _ wk_1_212) (fun _ h => h) hv hdg kk
theorem pf_X1_40 (hE : EV p m c cc nL s args RX1 D cI cJ cZ A) (hst : SS D A s ws H locs) (q0 : Nat) (he : ws[q0]? = some (a, .inr (1, fs))) (hx : fits (.int) v = true) (hn : narrow (.int) v = v) (hlen : 4 < fs.length) (ws' : va_W) (hws : ws.set q0 (a, .inr (1, fs.set 4 v)) = ws') (hdg : decode cc pc = .ok (.putfield 40, 3)) (kk : ∀ (H1 : Heap) (locs1 : List Loc), SS D A s ws' H1 locs1 → W p l e R s m args below meth c H1 locs1 cells slots Q (F0 m (pc + 3) ls rest)) : W p l e R s m args below meth c H locs cells slots Q (F0 m pc ls (v :: .ref a :: rest)) := by
  subst hws
  exact va_put (T := TX1) (N := 8) hE.1.1 hE.1.2.1 hE.1.2.2.2.2 inG1 tyX1 tyX1_ok nmX1 hE.1.2.2.2.1 hE.2.1 hst.1 hst.2.1 hst.2.2 q0 he rfl 4 (by decide) (hE.1.2.2.2.2 _ wk_1_212) (fun _ h => h) rfl (ty := .int) (by decide +kernel) hn hx hlen hdg (fun H1 l1 g1 g2 g3 => kk H1 l1 ⟨g1, g2, g3⟩)
theorem gf_X6_158 (hE : EV p m c cc nL s args RX6 D cI cJ cZ A) (hst : SS D A s ws H locs) (q0 : Nat) (he : ws[q0]? = some (a, .inr (1, fs))) (hv : fs[4]? = some v) (hdg : decode cc pc = .ok (.getfield 158, 3)) (kk : W p l e R s m args below meth c H locs cells slots Q (F0 m (pc + 3) ls (v :: rest))) : W p l e R s m args below meth c H locs cells slots Q (F0 m pc ls (.ref a :: rest)) :=
  va_getN (T := TX1) (N := 8) hE.1.1 hE.1.2.1 hE.1.2.2.2.2 inG1 hE.1.2.2.2.1 hE.2.1 hst.1 q0 he rfl 4 (by decide) (va_Nw.use rfl (hE.2.2.1.1 _ wk_1_213)) (fun _ h => h) hv hdg kk
theorem pf_X6_158 (hE : EV p m c cc nL s args RX6 D cI cJ cZ A) (hst : SS D A s ws H locs) (q0 : Nat) (he : ws[q0]? = some (a, .inr (1, fs))) (hx : fits (.int) v = true) (hn : narrow (.int) v = v) (hlen : 4 < fs.length) (ws' : va_W) (hws : ws.set q0 (a, .inr (1, fs.set 4 v)) = ws') (hdg : decode cc pc = .ok (.putfield 158, 3)) (kk : ∀ (H1 : Heap) (locs1 : List Loc), SS D A s ws' H1 locs1 → W p l e R s m args below meth c H1 locs1 cells slots Q (F0 m (pc + 3) ls rest)) : W p l e R s m args below meth c H locs cells slots Q (F0 m pc ls (v :: .ref a :: rest)) := by
  subst hws
  exact va_putN (T := TX1) (N := 8) hE.1.1 hE.1.2.1 hE.1.2.2.2.2 inG1 tyX1 tyX1_ok nmX1 hE.1.2.2.2.1 hE.2.1 hst.1 hst.2.1 hst.2.2 q0 he rfl 4 (by decide) (va_Nw.use rfl (hE.2.2.1.1 _ wk_1_213)) (fun _ h => h) rfl (ty := .int) (by decide +kernel) hn hx hlen hdg (fun H1 l1 g1 g2 g3 => kk H1 l1 ⟨g1, g2, g3⟩)
theorem gf_X1_44 (hE : EV p m c cc nL s args RX1 D cI cJ cZ A) (hst : SS D A s ws H locs) (q0 : Nat) (he : ws[q0]? = some (a, .inr (1, fs))) (hv : fs[5]? = some v) (hdg : decode cc pc = .ok (.getfield 44, 3)) (kk : W p l e R s m args below meth c H locs cells slots Q (F0 m (pc + 3) ls (v :: rest))) : W p l e R s m args below meth c H locs cells slots Q (F0 m pc ls (.ref a :: rest)) :=
  va_get (T := TX1) (N := 8) hE.1.1 hE.1.2.1 hE.1.2.2.2.2 inG1 hE.1.2.2.2.1 hE.2.1 hst.1 q0 he rfl 5 (by decide) (hE.1.2.2.2.2 _ wk_1_214) (fun _ h => h) hv hdg kk
theorem pf_X1_44 (hE : EV p m c cc nL s args RX1 D cI cJ cZ A) (hst : SS D A s ws H locs) (q0 : Nat) (he : ws[q0]? = some (a, .inr (1, fs))) (hx : fits (.int) v = true) (hn : narrow (.int) v = v) (hlen : 5 < fs.length) (ws' : va_W) (hws : ws.set q0 (a, .inr (1, fs.set 5 v)) = ws') (hdg : decode cc pc = .ok (.putfield 44, 3)) (kk : ∀ (H1 : Heap) (locs1 : List Loc), SS D A s ws' H1 locs1 → W p l e R s m args below meth c H1 locs1 cells slots Q (F0 m (pc + 3) ls rest)) : W p l e R s m args below meth c H locs cells slots Q (F0 m pc ls (v :: .ref a :: rest)) := by
  subst hws
  exact va_put (T := TX1) (N := 8) hE.1.1 hE.1.2.1 hE.1.2.2.2.2 inG1 tyX1 tyX1_ok nmX1 hE.1.2.2.2.1 hE.2.1 hst.1 hst.2.1 hst.2.2 q0 he rfl 5 (by decide) (hE.1.2.2.2.2 _ wk_1_214) (fun _ h => h) rfl (ty := .int) (by decide +kernel) hn hx hlen hdg (fun H1 l1 g1 g2 g3 => kk H1 l1 ⟨g1, g2, g3⟩)
theorem gf_X6_218 (hE : EV p m c cc nL s args RX6 D cI cJ cZ A) (hst : SS D A s ws H locs) (q0 : Nat) (he : ws[q0]? = some (a, .inr (1, fs))) (hv : fs[5]? = some v) (hdg : decode cc pc = .ok (.getfield 218, 3)) (kk : W p l e R s m args below meth c H locs cells slots Q (F0 m (pc + 3) ls (v :: rest))) : W p l e R s m args below meth c H locs cells slots Q (F0 m pc ls (.ref a :: rest)) :=
  va_getN (T := TX1) (N := 8) hE.1.1 hE.1.2.1 hE.1.2.2.2.2 inG1 hE.1.2.2.2.1 hE.2.1 hst.1 q0 he rfl 5 (by decide) (va_Nw.use rfl (hE.2.2.1.1 _ wk_1_215)) (fun _ h => h) hv hdg kk
theorem pf_X6_218 (hE : EV p m c cc nL s args RX6 D cI cJ cZ A) (hst : SS D A s ws H locs) (q0 : Nat) (he : ws[q0]? = some (a, .inr (1, fs))) (hx : fits (.int) v = true) (hn : narrow (.int) v = v) (hlen : 5 < fs.length) (ws' : va_W) (hws : ws.set q0 (a, .inr (1, fs.set 5 v)) = ws') (hdg : decode cc pc = .ok (.putfield 218, 3)) (kk : ∀ (H1 : Heap) (locs1 : List Loc), SS D A s ws' H1 locs1 → W p l e R s m args below meth c H1 locs1 cells slots Q (F0 m (pc + 3) ls rest)) : W p l e R s m args below meth c H locs cells slots Q (F0 m pc ls (v :: .ref a :: rest)) := by
  subst hws
  exact va_putN (T := TX1) (N := 8) hE.1.1 hE.1.2.1 hE.1.2.2.2.2 inG1 tyX1 tyX1_ok nmX1 hE.1.2.2.2.1 hE.2.1 hst.1 hst.2.1 hst.2.2 q0 he rfl 5 (by decide) (va_Nw.use rfl (hE.2.2.1.1 _ wk_1_215)) (fun _ h => h) rfl (ty := .int) (by decide +kernel) hn hx hlen hdg (fun H1 l1 g1 g2 g3 => kk H1 l1 ⟨g1, g2, g3⟩)
theorem gf_X1_50 (hE : EV p m c cc nL s args RX1 D cI cJ cZ A) (hst : SS D A s ws H locs) (q0 : Nat) (he : ws[q0]? = some (a, .inr (1, fs))) (hv : fs[6]? = some v) (hdg : decode cc pc = .ok (.getfield 50, 3)) (kk : W p l e R s m args below meth c H locs cells slots Q (F0 m (pc + 3) ls (v :: rest))) : W p l e R s m args below meth c H locs cells slots Q (F0 m pc ls (.ref a :: rest)) :=
  va_get (T := TX1) (N := 8) hE.1.1 hE.1.2.1 hE.1.2.2.2.2 inG1 hE.1.2.2.2.1 hE.2.1 hst.1 q0 he rfl 6 (by decide) (hE.1.2.2.2.2 _ wk_1_216) (fun _ h => h) hv hdg kk
theorem pf_X1_50 (hE : EV p m c cc nL s args RX1 D cI cJ cZ A) (hst : SS D A s ws H locs) (q0 : Nat) (he : ws[q0]? = some (a, .inr (1, fs))) (hin : meth.name = "<init>") (hx : fits (.object "GlassJar$Sides") v = true) (hn : narrow (.object "GlassJar$Sides") v = v) (hlen : 6 < fs.length) (ws' : va_W) (hws : ws.set q0 (a, .inr (1, fs.set 6 v)) = ws') (hdg : decode cc pc = .ok (.putfield 50, 3)) (kk : ∀ (H1 : Heap) (locs1 : List Loc), SS D A s ws' H1 locs1 → W p l e R s m args below meth c H1 locs1 cells slots Q (F0 m (pc + 3) ls rest)) : W p l e R s m args below meth c H locs cells slots Q (F0 m pc ls (v :: .ref a :: rest)) := by
  subst hws
  exact va_putF (T := TX1) (N := 8) hE.1.1 hE.1.2.1 hE.1.2.2.2.2 inG1 tyX1 tyX1_ok nmX1 hE.1.2.2.2.1 hE.2.1 hst.1 hst.2.1 hst.2.2 q0 he rfl 6 (by decide) (hE.1.2.2.2.2 _ wk_1_216) (fun _ h => h) rfl hin rfl (ty := .object "GlassJar$Sides") (by decide +kernel) hn hx hlen hdg (fun H1 l1 g1 g2 g3 => kk H1 l1 ⟨g1, g2, g3⟩)
theorem gf_X1_57 (hE : EV p m c cc nL s args RX1 D cI cJ cZ A) (hst : SS D A s ws H locs) (q0 : Nat) (he : ws[q0]? = some (a, .inr (1, fs))) (hv : fs[7]? = some v) (hdg : decode cc pc = .ok (.getfield 57, 3)) (kk : W p l e R s m args below meth c H locs cells slots Q (F0 m (pc + 3) ls (v :: rest))) : W p l e R s m args below meth c H locs cells slots Q (F0 m pc ls (.ref a :: rest)) :=
  va_get (T := TX1) (N := 8) hE.1.1 hE.1.2.1 hE.1.2.2.2.2 inG1 hE.1.2.2.2.1 hE.2.1 hst.1 q0 he rfl 7 (by decide) (hE.1.2.2.2.2 _ wk_1_217) (fun _ h => h) hv hdg kk
theorem pf_X1_57 (hE : EV p m c cc nL s args RX1 D cI cJ cZ A) (hst : SS D A s ws H locs) (q0 : Nat) (he : ws[q0]? = some (a, .inr (1, fs))) (hin : meth.name = "<init>") (hx : fits (.object "GlassJar$Ratio") v = true) (hn : narrow (.object "GlassJar$Ratio") v = v) (hlen : 7 < fs.length) (ws' : va_W) (hws : ws.set q0 (a, .inr (1, fs.set 7 v)) = ws') (hdg : decode cc pc = .ok (.putfield 57, 3)) (kk : ∀ (H1 : Heap) (locs1 : List Loc), SS D A s ws' H1 locs1 → W p l e R s m args below meth c H1 locs1 cells slots Q (F0 m (pc + 3) ls rest)) : W p l e R s m args below meth c H locs cells slots Q (F0 m pc ls (v :: .ref a :: rest)) := by
  subst hws
  exact va_putF (T := TX1) (N := 8) hE.1.1 hE.1.2.1 hE.1.2.2.2.2 inG1 tyX1 tyX1_ok nmX1 hE.1.2.2.2.1 hE.2.1 hst.1 hst.2.1 hst.2.2 q0 he rfl 7 (by decide) (hE.1.2.2.2.2 _ wk_1_217) (fun _ h => h) rfl hin rfl (ty := .object "GlassJar$Ratio") (by decide +kernel) hn hx hlen hdg (fun H1 l1 g1 g2 g3 => kk H1 l1 ⟨g1, g2, g3⟩)
theorem gf_X6_10 (hE : EV p m c cc nL s args RX6 D cI cJ cZ A) (hst : SS D A s ws H locs) (q0 : Nat) (he : ws[q0]? = some (a, .inr (6, fs))) (hv : fs[0]? = some v) (hdg : decode cc pc = .ok (.getfield 10, 3)) (kk : W p l e R s m args below meth c H locs cells slots Q (F0 m (pc + 3) ls (v :: rest))) : W p l e R s m args below meth c H locs cells slots Q (F0 m pc ls (.ref a :: rest)) :=
  va_get (T := TX6) (N := 6) hE.1.1 hE.1.2.1 hE.1.2.2.2.2 inG6 hE.1.2.2.2.1 hE.2.1 hst.1 q0 he rfl 0 (by decide) (hE.1.2.2.2.2 _ wk_1_237) (fun _ h => h) hv hdg kk
theorem pf_X6_10 (hE : EV p m c cc nL s args RX6 D cI cJ cZ A) (hst : SS D A s ws H locs) (q0 : Nat) (he : ws[q0]? = some (a, .inr (6, fs))) (hin : meth.name = "<init>") (hx : fits (.object "GlassJar$Tape") v = true) (hn : narrow (.object "GlassJar$Tape") v = v) (hlen : 0 < fs.length) (ws' : va_W) (hws : ws.set q0 (a, .inr (6, fs.set 0 v)) = ws') (hdg : decode cc pc = .ok (.putfield 10, 3)) (kk : ∀ (H1 : Heap) (locs1 : List Loc), SS D A s ws' H1 locs1 → W p l e R s m args below meth c H1 locs1 cells slots Q (F0 m (pc + 3) ls rest)) : W p l e R s m args below meth c H locs cells slots Q (F0 m pc ls (v :: .ref a :: rest)) := by
  subst hws
  exact va_putF (T := TX6) (N := 6) hE.1.1 hE.1.2.1 hE.1.2.2.2.2 inG6 tyX6 tyX6_ok nmX6 hE.1.2.2.2.1 hE.2.1 hst.1 hst.2.1 hst.2.2 q0 he rfl 0 (by decide) (hE.1.2.2.2.2 _ wk_1_237) (fun _ h => h) rfl hin rfl (ty := .object "GlassJar$Tape") (by decide +kernel) hn hx hlen hdg (fun H1 l1 g1 g2 g3 => kk H1 l1 ⟨g1, g2, g3⟩)
theorem gf_X6_19 (hE : EV p m c cc nL s args RX6 D cI cJ cZ A) (hst : SS D A s ws H locs) (q0 : Nat) (he : ws[q0]? = some (a, .inr (6, fs))) (hv : fs[1]? = some v) (hdg : decode cc pc = .ok (.getfield 19, 3)) (kk : W p l e R s m args below meth c H locs cells slots Q (F0 m (pc + 3) ls (v :: rest))) : W p l e R s m args below meth c H locs cells slots Q (F0 m pc ls (.ref a :: rest)) :=
  va_get (T := TX6) (N := 6) hE.1.1 hE.1.2.1 hE.1.2.2.2.2 inG6 hE.1.2.2.2.1 hE.2.1 hst.1 q0 he rfl 1 (by decide) (hE.1.2.2.2.2 _ wk_1_238) (fun _ h => h) hv hdg kk
theorem pf_X6_19 (hE : EV p m c cc nL s args RX6 D cI cJ cZ A) (hst : SS D A s ws H locs) (q0 : Nat) (he : ws[q0]? = some (a, .inr (6, fs))) (hin : meth.name = "<init>") (hx : fits (.object "GlassJar$Lottery") v = true) (hn : narrow (.object "GlassJar$Lottery") v = v) (hlen : 1 < fs.length) (ws' : va_W) (hws : ws.set q0 (a, .inr (6, fs.set 1 v)) = ws') (hdg : decode cc pc = .ok (.putfield 19, 3)) (kk : ∀ (H1 : Heap) (locs1 : List Loc), SS D A s ws' H1 locs1 → W p l e R s m args below meth c H1 locs1 cells slots Q (F0 m (pc + 3) ls rest)) : W p l e R s m args below meth c H locs cells slots Q (F0 m pc ls (v :: .ref a :: rest)) := by
  subst hws
  exact va_putF (T := TX6) (N := 6) hE.1.1 hE.1.2.1 hE.1.2.2.2.2 inG6 tyX6 tyX6_ok nmX6 hE.1.2.2.2.1 hE.2.1 hst.1 hst.2.1 hst.2.2 q0 he rfl 1 (by decide) (hE.1.2.2.2.2 _ wk_1_238) (fun _ h => h) rfl hin rfl (ty := .object "GlassJar$Lottery") (by decide +kernel) hn hx hlen hdg (fun H1 l1 g1 g2 g3 => kk H1 l1 ⟨g1, g2, g3⟩)
theorem gf_X6_23 (hE : EV p m c cc nL s args RX6 D cI cJ cZ A) (hst : SS D A s ws H locs) (q0 : Nat) (he : ws[q0]? = some (a, .inr (6, fs))) (hv : fs[2]? = some v) (hdg : decode cc pc = .ok (.getfield 23, 3)) (kk : W p l e R s m args below meth c H locs cells slots Q (F0 m (pc + 3) ls (v :: rest))) : W p l e R s m args below meth c H locs cells slots Q (F0 m pc ls (.ref a :: rest)) :=
  va_get (T := TX6) (N := 6) hE.1.1 hE.1.2.1 hE.1.2.2.2.2 inG6 hE.1.2.2.2.1 hE.2.1 hst.1 q0 he rfl 2 (by decide) (hE.1.2.2.2.2 _ wk_1_239) (fun _ h => h) hv hdg kk
theorem pf_X6_23 (hE : EV p m c cc nL s args RX6 D cI cJ cZ A) (hst : SS D A s ws H locs) (q0 : Nat) (he : ws[q0]? = some (a, .inr (6, fs))) (hin : meth.name = "<init>") (hx : fits (.object "GlassJar$Lottery") v = true) (hn : narrow (.object "GlassJar$Lottery") v = v) (hlen : 2 < fs.length) (ws' : va_W) (hws : ws.set q0 (a, .inr (6, fs.set 2 v)) = ws') (hdg : decode cc pc = .ok (.putfield 23, 3)) (kk : ∀ (H1 : Heap) (locs1 : List Loc), SS D A s ws' H1 locs1 → W p l e R s m args below meth c H1 locs1 cells slots Q (F0 m (pc + 3) ls rest)) : W p l e R s m args below meth c H locs cells slots Q (F0 m pc ls (v :: .ref a :: rest)) := by
  subst hws
  exact va_putF (T := TX6) (N := 6) hE.1.1 hE.1.2.1 hE.1.2.2.2.2 inG6 tyX6 tyX6_ok nmX6 hE.1.2.2.2.1 hE.2.1 hst.1 hst.2.1 hst.2.2 q0 he rfl 2 (by decide) (hE.1.2.2.2.2 _ wk_1_239) (fun _ h => h) rfl hin rfl (ty := .object "GlassJar$Lottery") (by decide +kernel) hn hx hlen hdg (fun H1 l1 g1 g2 g3 => kk H1 l1 ⟨g1, g2, g3⟩)
theorem gf_X6_26 (hE : EV p m c cc nL s args RX6 D cI cJ cZ A) (hst : SS D A s ws H locs) (q0 : Nat) (he : ws[q0]? = some (a, .inr (6, fs))) (hv : fs[3]? = some v) (hdg : decode cc pc = .ok (.getfield 26, 3)) (kk : W p l e R s m args below meth c H locs cells slots Q (F0 m (pc + 3) ls (v :: rest))) : W p l e R s m args below meth c H locs cells slots Q (F0 m pc ls (.ref a :: rest)) :=
  va_get (T := TX6) (N := 6) hE.1.1 hE.1.2.1 hE.1.2.2.2.2 inG6 hE.1.2.2.2.1 hE.2.1 hst.1 q0 he rfl 3 (by decide) (hE.1.2.2.2.2 _ wk_2_0) (fun _ h => h) hv hdg kk
theorem pf_X6_26 (hE : EV p m c cc nL s args RX6 D cI cJ cZ A) (hst : SS D A s ws H locs) (q0 : Nat) (he : ws[q0]? = some (a, .inr (6, fs))) (hx : fits (.boolean) v = true) (hn : narrow (.boolean) v = v) (hlen : 3 < fs.length) (ws' : va_W) (hws : ws.set q0 (a, .inr (6, fs.set 3 v)) = ws') (hdg : decode cc pc = .ok (.putfield 26, 3)) (kk : ∀ (H1 : Heap) (locs1 : List Loc), SS D A s ws' H1 locs1 → W p l e R s m args below meth c H1 locs1 cells slots Q (F0 m (pc + 3) ls rest)) : W p l e R s m args below meth c H locs cells slots Q (F0 m pc ls (v :: .ref a :: rest)) := by
  subst hws
  exact va_put (T := TX6) (N := 6) hE.1.1 hE.1.2.1 hE.1.2.2.2.2 inG6 tyX6 tyX6_ok nmX6 hE.1.2.2.2.1 hE.2.1 hst.1 hst.2.1 hst.2.2 q0 he rfl 3 (by decide) (hE.1.2.2.2.2 _ wk_2_0) (fun _ h => h) rfl (ty := .boolean) (by decide +kernel) hn hx hlen hdg (fun H1 l1 g1 g2 g3 => kk H1 l1 ⟨g1, g2, g3⟩)
theorem gf_X6_30 (hE : EV p m c cc nL s args RX6 D cI cJ cZ A) (hst : SS D A s ws H locs) (q0 : Nat) (he : ws[q0]? = some (a, .inr (6, fs))) (hv : fs[4]? = some v) (hdg : decode cc pc = .ok (.getfield 30, 3)) (kk : W p l e R s m args below meth c H locs cells slots Q (F0 m (pc + 3) ls (v :: rest))) : W p l e R s m args below meth c H locs cells slots Q (F0 m pc ls (.ref a :: rest)) :=
  va_get (T := TX6) (N := 6) hE.1.1 hE.1.2.1 hE.1.2.2.2.2 inG6 hE.1.2.2.2.1 hE.2.1 hst.1 q0 he rfl 4 (by decide) (hE.1.2.2.2.2 _ wk_2_1) (fun _ h => h) hv hdg kk
theorem pf_X6_30 (hE : EV p m c cc nL s args RX6 D cI cJ cZ A) (hst : SS D A s ws H locs) (q0 : Nat) (he : ws[q0]? = some (a, .inr (6, fs))) (hin : meth.name = "<init>") (hx : fits (.array .int) v = true) (hn : narrow (.array .int) v = v) (hlen : 4 < fs.length) (ws' : va_W) (hws : ws.set q0 (a, .inr (6, fs.set 4 v)) = ws') (hdg : decode cc pc = .ok (.putfield 30, 3)) (kk : ∀ (H1 : Heap) (locs1 : List Loc), SS D A s ws' H1 locs1 → W p l e R s m args below meth c H1 locs1 cells slots Q (F0 m (pc + 3) ls rest)) : W p l e R s m args below meth c H locs cells slots Q (F0 m pc ls (v :: .ref a :: rest)) := by
  subst hws
  exact va_putF (T := TX6) (N := 6) hE.1.1 hE.1.2.1 hE.1.2.2.2.2 inG6 tyX6 tyX6_ok nmX6 hE.1.2.2.2.1 hE.2.1 hst.1 hst.2.1 hst.2.2 q0 he rfl 4 (by decide) (hE.1.2.2.2.2 _ wk_2_1) (fun _ h => h) rfl hin rfl (ty := .array .int) (by decide +kernel) hn hx hlen hdg (fun H1 l1 g1 g2 g3 => kk H1 l1 ⟨g1, g2, g3⟩)
theorem gf_X6_37 (hE : EV p m c cc nL s args RX6 D cI cJ cZ A) (hst : SS D A s ws H locs) (q0 : Nat) (he : ws[q0]? = some (a, .inr (6, fs))) (hv : fs[5]? = some v) (hdg : decode cc pc = .ok (.getfield 37, 3)) (kk : W p l e R s m args below meth c H locs cells slots Q (F0 m (pc + 3) ls (v :: rest))) : W p l e R s m args below meth c H locs cells slots Q (F0 m pc ls (.ref a :: rest)) :=
  va_get (T := TX6) (N := 6) hE.1.1 hE.1.2.1 hE.1.2.2.2.2 inG6 hE.1.2.2.2.1 hE.2.1 hst.1 q0 he rfl 5 (by decide) (hE.1.2.2.2.2 _ wk_2_2) (fun _ h => h) hv hdg kk
theorem pf_X6_37 (hE : EV p m c cc nL s args RX6 D cI cJ cZ A) (hst : SS D A s ws H locs) (q0 : Nat) (he : ws[q0]? = some (a, .inr (6, fs))) (hin : meth.name = "<init>") (hx : fits (.object "GlassJar$Ratio") v = true) (hn : narrow (.object "GlassJar$Ratio") v = v) (hlen : 5 < fs.length) (ws' : va_W) (hws : ws.set q0 (a, .inr (6, fs.set 5 v)) = ws') (hdg : decode cc pc = .ok (.putfield 37, 3)) (kk : ∀ (H1 : Heap) (locs1 : List Loc), SS D A s ws' H1 locs1 → W p l e R s m args below meth c H1 locs1 cells slots Q (F0 m (pc + 3) ls rest)) : W p l e R s m args below meth c H locs cells slots Q (F0 m pc ls (v :: .ref a :: rest)) := by
  subst hws
  exact va_putF (T := TX6) (N := 6) hE.1.1 hE.1.2.1 hE.1.2.2.2.2 inG6 tyX6 tyX6_ok nmX6 hE.1.2.2.2.1 hE.2.1 hst.1 hst.2.1 hst.2.2 q0 he rfl 5 (by decide) (hE.1.2.2.2.2 _ wk_2_2) (fun _ h => h) rfl hin rfl (ty := .object "GlassJar$Ratio") (by decide +kernel) hn hx hlen hdg (fun H1 l1 g1 g2 g3 => kk H1 l1 ⟨g1, g2, g3⟩)
theorem gf_X7_7 (hE : EV p m c cc nL s args RX7 D cI cJ cZ A) (hst : SS D A s ws H locs) (q0 : Nat) (he : ws[q0]? = some (a, .inr (7, fs))) (hv : fs[0]? = some v) (hdg : decode cc pc = .ok (.getfield 7, 3)) (kk : W p l e R s m args below meth c H locs cells slots Q (F0 m (pc + 3) ls (v :: rest))) : W p l e R s m args below meth c H locs cells slots Q (F0 m pc ls (.ref a :: rest)) :=
  va_get (T := TX7) (N := 28) hE.1.1 hE.1.2.1 hE.1.2.2.2.2 inG7 hE.1.2.2.2.1 hE.2.1 hst.1 q0 he rfl 0 (by decide) (hE.1.2.2.2.2 _ wk_3_205) (fun _ h => h) hv hdg kk
theorem pf_X7_7 (hE : EV p m c cc nL s args RX7 D cI cJ cZ A) (hst : SS D A s ws H locs) (q0 : Nat) (he : ws[q0]? = some (a, .inr (7, fs))) (hin : meth.name = "<init>") (hx : fits (.array .int) v = true) (hn : narrow (.array .int) v = v) (hlen : 0 < fs.length) (ws' : va_W) (hws : ws.set q0 (a, .inr (7, fs.set 0 v)) = ws') (hdg : decode cc pc = .ok (.putfield 7, 3)) (kk : ∀ (H1 : Heap) (locs1 : List Loc), SS D A s ws' H1 locs1 → W p l e R s m args below meth c H1 locs1 cells slots Q (F0 m (pc + 3) ls rest)) : W p l e R s m args below meth c H locs cells slots Q (F0 m pc ls (v :: .ref a :: rest)) := by
  subst hws
  exact va_putF (T := TX7) (N := 28) hE.1.1 hE.1.2.1 hE.1.2.2.2.2 inG7 tyX7 tyX7_ok nmX7 hE.1.2.2.2.1 hE.2.1 hst.1 hst.2.1 hst.2.2 q0 he rfl 0 (by decide) (hE.1.2.2.2.2 _ wk_3_205) (fun _ h => h) rfl hin rfl (ty := .array .int) (by decide +kernel) hn hx hlen hdg (fun H1 l1 g1 g2 g3 => kk H1 l1 ⟨g1, g2, g3⟩)
theorem gf_X7_13 (hE : EV p m c cc nL s args RX7 D cI cJ cZ A) (hst : SS D A s ws H locs) (q0 : Nat) (he : ws[q0]? = some (a, .inr (7, fs))) (hv : fs[1]? = some v) (hdg : decode cc pc = .ok (.getfield 13, 3)) (kk : W p l e R s m args below meth c H locs cells slots Q (F0 m (pc + 3) ls (v :: rest))) : W p l e R s m args below meth c H locs cells slots Q (F0 m pc ls (.ref a :: rest)) :=
  va_get (T := TX7) (N := 28) hE.1.1 hE.1.2.1 hE.1.2.2.2.2 inG7 hE.1.2.2.2.1 hE.2.1 hst.1 q0 he rfl 1 (by decide) (hE.1.2.2.2.2 _ wk_3_206) (fun _ h => h) hv hdg kk
theorem pf_X7_13 (hE : EV p m c cc nL s args RX7 D cI cJ cZ A) (hst : SS D A s ws H locs) (q0 : Nat) (he : ws[q0]? = some (a, .inr (7, fs))) (hin : meth.name = "<init>") (hx : fits (.array .int) v = true) (hn : narrow (.array .int) v = v) (hlen : 1 < fs.length) (ws' : va_W) (hws : ws.set q0 (a, .inr (7, fs.set 1 v)) = ws') (hdg : decode cc pc = .ok (.putfield 13, 3)) (kk : ∀ (H1 : Heap) (locs1 : List Loc), SS D A s ws' H1 locs1 → W p l e R s m args below meth c H1 locs1 cells slots Q (F0 m (pc + 3) ls rest)) : W p l e R s m args below meth c H locs cells slots Q (F0 m pc ls (v :: .ref a :: rest)) := by
  subst hws
  exact va_putF (T := TX7) (N := 28) hE.1.1 hE.1.2.1 hE.1.2.2.2.2 inG7 tyX7 tyX7_ok nmX7 hE.1.2.2.2.1 hE.2.1 hst.1 hst.2.1 hst.2.2 q0 he rfl 1 (by decide) (hE.1.2.2.2.2 _ wk_3_206) (fun _ h => h) rfl hin rfl (ty := .array .int) (by decide +kernel) hn hx hlen hdg (fun H1 l1 g1 g2 g3 => kk H1 l1 ⟨g1, g2, g3⟩)
theorem gf_X7_16 (hE : EV p m c cc nL s args RX7 D cI cJ cZ A) (hst : SS D A s ws H locs) (q0 : Nat) (he : ws[q0]? = some (a, .inr (7, fs))) (hv : fs[2]? = some v) (hdg : decode cc pc = .ok (.getfield 16, 3)) (kk : W p l e R s m args below meth c H locs cells slots Q (F0 m (pc + 3) ls (v :: rest))) : W p l e R s m args below meth c H locs cells slots Q (F0 m pc ls (.ref a :: rest)) :=
  va_get (T := TX7) (N := 28) hE.1.1 hE.1.2.1 hE.1.2.2.2.2 inG7 hE.1.2.2.2.1 hE.2.1 hst.1 q0 he rfl 2 (by decide) (hE.1.2.2.2.2 _ wk_3_207) (fun _ h => h) hv hdg kk
theorem pf_X7_16 (hE : EV p m c cc nL s args RX7 D cI cJ cZ A) (hst : SS D A s ws H locs) (q0 : Nat) (he : ws[q0]? = some (a, .inr (7, fs))) (hin : meth.name = "<init>") (hx : fits (.array .int) v = true) (hn : narrow (.array .int) v = v) (hlen : 2 < fs.length) (ws' : va_W) (hws : ws.set q0 (a, .inr (7, fs.set 2 v)) = ws') (hdg : decode cc pc = .ok (.putfield 16, 3)) (kk : ∀ (H1 : Heap) (locs1 : List Loc), SS D A s ws' H1 locs1 → W p l e R s m args below meth c H1 locs1 cells slots Q (F0 m (pc + 3) ls rest)) : W p l e R s m args below meth c H locs cells slots Q (F0 m pc ls (v :: .ref a :: rest)) := by
  subst hws
  exact va_putF (T := TX7) (N := 28) hE.1.1 hE.1.2.1 hE.1.2.2.2.2 inG7 tyX7 tyX7_ok nmX7 hE.1.2.2.2.1 hE.2.1 hst.1 hst.2.1 hst.2.2 q0 he rfl 2 (by decide) (hE.1.2.2.2.2 _ wk_3_207) (fun _ h => h) rfl hin rfl (ty := .array .int) (by decide +kernel) hn hx hlen hdg (fun H1 l1 g1 g2 g3 => kk H1 l1 ⟨g1, g2, g3⟩)
theorem gf_X7_19 (hE : EV p m c cc nL s args RX7 D cI cJ cZ A) (hst : SS D A s ws H locs) (q0 : Nat) (he : ws[q0]? = some (a, .inr (7, fs))) (hv : fs[3]? = some v) (hdg : decode cc pc = .ok (.getfield 19, 3)) (kk : W p l e R s m args below meth c H locs cells slots Q (F0 m (pc + 3) ls (v :: rest))) : W p l e R s m args below meth c H locs cells slots Q (F0 m pc ls (.ref a :: rest)) :=
  va_get (T := TX7) (N := 28) hE.1.1 hE.1.2.1 hE.1.2.2.2.2 inG7 hE.1.2.2.2.1 hE.2.1 hst.1 q0 he rfl 3 (by decide) (hE.1.2.2.2.2 _ wk_3_208) (fun _ h => h) hv hdg kk
theorem pf_X7_19 (hE : EV p m c cc nL s args RX7 D cI cJ cZ A) (hst : SS D A s ws H locs) (q0 : Nat) (he : ws[q0]? = some (a, .inr (7, fs))) (hin : meth.name = "<init>") (hx : fits (.array .int) v = true) (hn : narrow (.array .int) v = v) (hlen : 3 < fs.length) (ws' : va_W) (hws : ws.set q0 (a, .inr (7, fs.set 3 v)) = ws') (hdg : decode cc pc = .ok (.putfield 19, 3)) (kk : ∀ (H1 : Heap) (locs1 : List Loc), SS D A s ws' H1 locs1 → W p l e R s m args below meth c H1 locs1 cells slots Q (F0 m (pc + 3) ls rest)) : W p l e R s m args below meth c H locs cells slots Q (F0 m pc ls (v :: .ref a :: rest)) := by
  subst hws
  exact va_putF (T := TX7) (N := 28) hE.1.1 hE.1.2.1 hE.1.2.2.2.2 inG7 tyX7 tyX7_ok nmX7 hE.1.2.2.2.1 hE.2.1 hst.1 hst.2.1 hst.2.2 q0 he rfl 3 (by decide) (hE.1.2.2.2.2 _ wk_3_208) (fun _ h => h) rfl hin rfl (ty := .array .int) (by decide +kernel) hn hx hlen hdg (fun H1 l1 g1 g2 g3 => kk H1 l1 ⟨g1, g2, g3⟩)
theorem gf_X7_22 (hE : EV p m c cc nL s args RX7 D cI cJ cZ A) (hst : SS D A s ws H locs) (q0 : Nat) (he : ws[q0]? = some (a, .inr (7, fs))) (hv : fs[4]? = some v) (hdg : decode cc pc = .ok (.getfield 22, 3)) (kk : W p l e R s m args below meth c H locs cells slots Q (F0 m (pc + 3) ls (v :: rest))) : W p l e R s m args below meth c H locs cells slots Q (F0 m pc ls (.ref a :: rest)) :=
  va_get (T := TX7) (N := 28) hE.1.1 hE.1.2.1 hE.1.2.2.2.2 inG7 hE.1.2.2.2.1 hE.2.1 hst.1 q0 he rfl 4 (by decide) (hE.1.2.2.2.2 _ wk_3_209) (fun _ h => h) hv hdg kk
theorem pf_X7_22 (hE : EV p m c cc nL s args RX7 D cI cJ cZ A) (hst : SS D A s ws H locs) (q0 : Nat) (he : ws[q0]? = some (a, .inr (7, fs))) (hin : meth.name = "<init>") (hx : fits (.array .int) v = true) (hn : narrow (.array .int) v = v) (hlen : 4 < fs.length) (ws' : va_W) (hws : ws.set q0 (a, .inr (7, fs.set 4 v)) = ws') (hdg : decode cc pc = .ok (.putfield 22, 3)) (kk : ∀ (H1 : Heap) (locs1 : List Loc), SS D A s ws' H1 locs1 → W p l e R s m args below meth c H1 locs1 cells slots Q (F0 m (pc + 3) ls rest)) : W p l e R s m args below meth c H locs cells slots Q (F0 m pc ls (v :: .ref a :: rest)) := by
  subst hws
  exact va_putF (T := TX7) (N := 28) hE.1.1 hE.1.2.1 hE.1.2.2.2.2 inG7 tyX7 tyX7_ok nmX7 hE.1.2.2.2.1 hE.2.1 hst.1 hst.2.1 hst.2.2 q0 he rfl 4 (by decide) (hE.1.2.2.2.2 _ wk_3_209) (fun _ h => h) rfl hin rfl (ty := .array .int) (by decide +kernel) hn hx hlen hdg (fun H1 l1 g1 g2 g3 => kk H1 l1 ⟨g1, g2, g3⟩)
theorem gf_X7_25 (hE : EV p m c cc nL s args RX7 D cI cJ cZ A) (hst : SS D A s ws H locs) (q0 : Nat) (he : ws[q0]? = some (a, .inr (7, fs))) (hv : fs[5]? = some v) (hdg : decode cc pc = .ok (.getfield 25, 3)) (kk : W p l e R s m args below meth c H locs cells slots Q (F0 m (pc + 3) ls (v :: rest))) : W p l e R s m args below meth c H locs cells slots Q (F0 m pc ls (.ref a :: rest)) :=
  va_get (T := TX7) (N := 28) hE.1.1 hE.1.2.1 hE.1.2.2.2.2 inG7 hE.1.2.2.2.1 hE.2.1 hst.1 q0 he rfl 5 (by decide) (hE.1.2.2.2.2 _ wk_3_210) (fun _ h => h) hv hdg kk
theorem pf_X7_25 (hE : EV p m c cc nL s args RX7 D cI cJ cZ A) (hst : SS D A s ws H locs) (q0 : Nat) (he : ws[q0]? = some (a, .inr (7, fs))) (hin : meth.name = "<init>") (hx : fits (.array .int) v = true) (hn : narrow (.array .int) v = v) (hlen : 5 < fs.length) (ws' : va_W) (hws : ws.set q0 (a, .inr (7, fs.set 5 v)) = ws') (hdg : decode cc pc = .ok (.putfield 25, 3)) (kk : ∀ (H1 : Heap) (locs1 : List Loc), SS D A s ws' H1 locs1 → W p l e R s m args below meth c H1 locs1 cells slots Q (F0 m (pc + 3) ls rest)) : W p l e R s m args below meth c H locs cells slots Q (F0 m pc ls (v :: .ref a :: rest)) := by
  subst hws
  exact va_putF (T := TX7) (N := 28) hE.1.1 hE.1.2.1 hE.1.2.2.2.2 inG7 tyX7 tyX7_ok nmX7 hE.1.2.2.2.1 hE.2.1 hst.1 hst.2.1 hst.2.2 q0 he rfl 5 (by decide) (hE.1.2.2.2.2 _ wk_3_210) (fun _ h => h) rfl hin rfl (ty := .array .int) (by decide +kernel) hn hx hlen hdg (fun H1 l1 g1 g2 g3 => kk H1 l1 ⟨g1, g2, g3⟩)
theorem gf_X7_28 (hE : EV p m c cc nL s args RX7 D cI cJ cZ A) (hst : SS D A s ws H locs) (q0 : Nat) (he : ws[q0]? = some (a, .inr (7, fs))) (hv : fs[6]? = some v) (hdg : decode cc pc = .ok (.getfield 28, 3)) (kk : W p l e R s m args below meth c H locs cells slots Q (F0 m (pc + 3) ls (v :: rest))) : W p l e R s m args below meth c H locs cells slots Q (F0 m pc ls (.ref a :: rest)) :=
  va_get (T := TX7) (N := 28) hE.1.1 hE.1.2.1 hE.1.2.2.2.2 inG7 hE.1.2.2.2.1 hE.2.1 hst.1 q0 he rfl 6 (by decide) (hE.1.2.2.2.2 _ wk_3_211) (fun _ h => h) hv hdg kk
theorem pf_X7_28 (hE : EV p m c cc nL s args RX7 D cI cJ cZ A) (hst : SS D A s ws H locs) (q0 : Nat) (he : ws[q0]? = some (a, .inr (7, fs))) (hin : meth.name = "<init>") (hx : fits (.array .int) v = true) (hn : narrow (.array .int) v = v) (hlen : 6 < fs.length) (ws' : va_W) (hws : ws.set q0 (a, .inr (7, fs.set 6 v)) = ws') (hdg : decode cc pc = .ok (.putfield 28, 3)) (kk : ∀ (H1 : Heap) (locs1 : List Loc), SS D A s ws' H1 locs1 → W p l e R s m args below meth c H1 locs1 cells slots Q (F0 m (pc + 3) ls rest)) : W p l e R s m args below meth c H locs cells slots Q (F0 m pc ls (v :: .ref a :: rest)) := by
  subst hws
  exact va_putF (T := TX7) (N := 28) hE.1.1 hE.1.2.1 hE.1.2.2.2.2 inG7 tyX7 tyX7_ok nmX7 hE.1.2.2.2.1 hE.2.1 hst.1 hst.2.1 hst.2.2 q0 he rfl 6 (by decide) (hE.1.2.2.2.2 _ wk_3_211) (fun _ h => h) rfl hin rfl (ty := .array .int) (by decide +kernel) hn hx hlen hdg (fun H1 l1 g1 g2 g3 => kk H1 l1 ⟨g1, g2, g3⟩)
theorem gf_X7_31 (hE : EV p m c cc nL s args RX7 D cI cJ cZ A) (hst : SS D A s ws H locs) (q0 : Nat) (he : ws[q0]? = some (a, .inr (7, fs))) (hv : fs[7]? = some v) (hdg : decode cc pc = .ok (.getfield 31, 3)) (kk : W p l e R s m args below meth c H locs cells slots Q (F0 m (pc + 3) ls (v :: rest))) : W p l e R s m args below meth c H locs cells slots Q (F0 m pc ls (.ref a :: rest)) :=
  va_get (T := TX7) (N := 28) hE.1.1 hE.1.2.1 hE.1.2.2.2.2 inG7 hE.1.2.2.2.1 hE.2.1 hst.1 q0 he rfl 7 (by decide) (hE.1.2.2.2.2 _ wk_3_212) (fun _ h => h) hv hdg kk
theorem pf_X7_31 (hE : EV p m c cc nL s args RX7 D cI cJ cZ A) (hst : SS D A s ws H locs) (q0 : Nat) (he : ws[q0]? = some (a, .inr (7, fs))) (hin : meth.name = "<init>") (hx : fits (.array .int) v = true) (hn : narrow (.array .int) v = v) (hlen : 7 < fs.length) (ws' : va_W) (hws : ws.set q0 (a, .inr (7, fs.set 7 v)) = ws') (hdg : decode cc pc = .ok (.putfield 31, 3)) (kk : ∀ (H1 : Heap) (locs1 : List Loc), SS D A s ws' H1 locs1 → W p l e R s m args below meth c H1 locs1 cells slots Q (F0 m (pc + 3) ls rest)) : W p l e R s m args below meth c H locs cells slots Q (F0 m pc ls (v :: .ref a :: rest)) := by
  subst hws
  exact va_putF (T := TX7) (N := 28) hE.1.1 hE.1.2.1 hE.1.2.2.2.2 inG7 tyX7 tyX7_ok nmX7 hE.1.2.2.2.1 hE.2.1 hst.1 hst.2.1 hst.2.2 q0 he rfl 7 (by decide) (hE.1.2.2.2.2 _ wk_3_212) (fun _ h => h) rfl hin rfl (ty := .array .int) (by decide +kernel) hn hx hlen hdg (fun H1 l1 g1 g2 g3 => kk H1 l1 ⟨g1, g2, g3⟩)
theorem gf_X7_34 (hE : EV p m c cc nL s args RX7 D cI cJ cZ A) (hst : SS D A s ws H locs) (q0 : Nat) (he : ws[q0]? = some (a, .inr (7, fs))) (hv : fs[8]? = some v) (hdg : decode cc pc = .ok (.getfield 34, 3)) (kk : W p l e R s m args below meth c H locs cells slots Q (F0 m (pc + 3) ls (v :: rest))) : W p l e R s m args below meth c H locs cells slots Q (F0 m pc ls (.ref a :: rest)) :=
  va_get (T := TX7) (N := 28) hE.1.1 hE.1.2.1 hE.1.2.2.2.2 inG7 hE.1.2.2.2.1 hE.2.1 hst.1 q0 he rfl 8 (by decide) (hE.1.2.2.2.2 _ wk_3_213) (fun _ h => h) hv hdg kk
theorem pf_X7_34 (hE : EV p m c cc nL s args RX7 D cI cJ cZ A) (hst : SS D A s ws H locs) (q0 : Nat) (he : ws[q0]? = some (a, .inr (7, fs))) (hin : meth.name = "<init>") (hx : fits (.array .int) v = true) (hn : narrow (.array .int) v = v) (hlen : 8 < fs.length) (ws' : va_W) (hws : ws.set q0 (a, .inr (7, fs.set 8 v)) = ws') (hdg : decode cc pc = .ok (.putfield 34, 3)) (kk : ∀ (H1 : Heap) (locs1 : List Loc), SS D A s ws' H1 locs1 → W p l e R s m args below meth c H1 locs1 cells slots Q (F0 m (pc + 3) ls rest)) : W p l e R s m args below meth c H locs cells slots Q (F0 m pc ls (v :: .ref a :: rest)) := by
  subst hws
  exact va_putF (T := TX7) (N := 28) hE.1.1 hE.1.2.1 hE.1.2.2.2.2 inG7 tyX7 tyX7_ok nmX7 hE.1.2.2.2.1 hE.2.1 hst.1 hst.2.1 hst.2.2 q0 he rfl 8 (by decide) (hE.1.2.2.2.2 _ wk_3_213) (fun _ h => h) rfl hin rfl (ty := .array .int) (by decide +kernel) hn hx hlen hdg (fun H1 l1 g1 g2 g3 => kk H1 l1 ⟨g1, g2, g3⟩)
theorem gf_X7_37 (hE : EV p m c cc nL s args RX7 D cI cJ cZ A) (hst : SS D A s ws H locs) (q0 : Nat) (he : ws[q0]? = some (a, .inr (7, fs))) (hv : fs[9]? = some v) (hdg : decode cc pc = .ok (.getfield 37, 3)) (kk : W p l e R s m args below meth c H locs cells slots Q (F0 m (pc + 3) ls (v :: rest))) : W p l e R s m args below meth c H locs cells slots Q (F0 m pc ls (.ref a :: rest)) :=
  va_get (T := TX7) (N := 28) hE.1.1 hE.1.2.1 hE.1.2.2.2.2 inG7 hE.1.2.2.2.1 hE.2.1 hst.1 q0 he rfl 9 (by decide) (hE.1.2.2.2.2 _ wk_3_214) (fun _ h => h) hv hdg kk
theorem pf_X7_37 (hE : EV p m c cc nL s args RX7 D cI cJ cZ A) (hst : SS D A s ws H locs) (q0 : Nat) (he : ws[q0]? = some (a, .inr (7, fs))) (hin : meth.name = "<init>") (hx : fits (.array .boolean) v = true) (hn : narrow (.array .boolean) v = v) (hlen : 9 < fs.length) (ws' : va_W) (hws : ws.set q0 (a, .inr (7, fs.set 9 v)) = ws') (hdg : decode cc pc = .ok (.putfield 37, 3)) (kk : ∀ (H1 : Heap) (locs1 : List Loc), SS D A s ws' H1 locs1 → W p l e R s m args below meth c H1 locs1 cells slots Q (F0 m (pc + 3) ls rest)) : W p l e R s m args below meth c H locs cells slots Q (F0 m pc ls (v :: .ref a :: rest)) := by
  subst hws
  exact va_putF (T := TX7) (N := 28) hE.1.1 hE.1.2.1 hE.1.2.2.2.2 inG7 tyX7 tyX7_ok nmX7 hE.1.2.2.2.1 hE.2.1 hst.1 hst.2.1 hst.2.2 q0 he rfl 9 (by decide) (hE.1.2.2.2.2 _ wk_3_214) (fun _ h => h) rfl hin rfl (ty := .array .boolean) (by decide +kernel) hn hx hlen hdg (fun H1 l1 g1 g2 g3 => kk H1 l1 ⟨g1, g2, g3⟩)
theorem gf_X7_71 (hE : EV p m c cc nL s args RX7 D cI cJ cZ A) (hst : SS D A s ws H locs) (q0 : Nat) (he : ws[q0]? = some (a, .inr (7, fs))) (hv : fs[10]? = some v) (hdg : decode cc pc = .ok (.getfield 71, 3)) (kk : W p l e R s m args below meth c H locs cells slots Q (F0 m (pc + 3) ls (v :: rest))) : W p l e R s m args below meth c H locs cells slots Q (F0 m pc ls (.ref a :: rest)) :=
  va_get (T := TX7) (N := 28) hE.1.1 hE.1.2.1 hE.1.2.2.2.2 inG7 hE.1.2.2.2.1 hE.2.1 hst.1 q0 he rfl 10 (by decide) (hE.1.2.2.2.2 _ wk_3_215) (fun _ h => h) hv hdg kk
theorem pf_X7_71 (hE : EV p m c cc nL s args RX7 D cI cJ cZ A) (hst : SS D A s ws H locs) (q0 : Nat) (he : ws[q0]? = some (a, .inr (7, fs))) (hx : fits (.int) v = true) (hn : narrow (.int) v = v) (hlen : 10 < fs.length) (ws' : va_W) (hws : ws.set q0 (a, .inr (7, fs.set 10 v)) = ws') (hdg : decode cc pc = .ok (.putfield 71, 3)) (kk : ∀ (H1 : Heap) (locs1 : List Loc), SS D A s ws' H1 locs1 → W p l e R s m args below meth c H1 locs1 cells slots Q (F0 m (pc + 3) ls rest)) : W p l e R s m args below meth c H locs cells slots Q (F0 m pc ls (v :: .ref a :: rest)) := by
  subst hws
  exact va_put (T := TX7) (N := 28) hE.1.1 hE.1.2.1 hE.1.2.2.2.2 inG7 tyX7 tyX7_ok nmX7 hE.1.2.2.2.1 hE.2.1 hst.1 hst.2.1 hst.2.2 q0 he rfl 10 (by decide) (hE.1.2.2.2.2 _ wk_3_215) (fun _ h => h) rfl (ty := .int) (by decide +kernel) hn hx hlen hdg (fun H1 l1 g1 g2 g3 => kk H1 l1 ⟨g1, g2, g3⟩)
theorem gf_X7_111 (hE : EV p m c cc nL s args RX7 D cI cJ cZ A) (hst : SS D A s ws H locs) (q0 : Nat) (he : ws[q0]? = some (a, .inr (7, fs))) (hv : fs[11]? = some v) (hdg : decode cc pc = .ok (.getfield 111, 3)) (kk : W p l e R s m args below meth c H locs cells slots Q (F0 m (pc + 3) ls (v :: rest))) : W p l e R s m args below meth c H locs cells slots Q (F0 m pc ls (.ref a :: rest)) :=
  va_get (T := TX7) (N := 28) hE.1.1 hE.1.2.1 hE.1.2.2.2.2 inG7 hE.1.2.2.2.1 hE.2.1 hst.1 q0 he rfl 11 (by decide) (hE.1.2.2.2.2 _ wk_3_216) (fun _ h => h) hv hdg kk
theorem pf_X7_111 (hE : EV p m c cc nL s args RX7 D cI cJ cZ A) (hst : SS D A s ws H locs) (q0 : Nat) (he : ws[q0]? = some (a, .inr (7, fs))) (hx : fits (.long) v = true) (hn : narrow (.long) v = v) (hlen : 11 < fs.length) (ws' : va_W) (hws : ws.set q0 (a, .inr (7, fs.set 11 v)) = ws') (hdg : decode cc pc = .ok (.putfield 111, 3)) (kk : ∀ (H1 : Heap) (locs1 : List Loc), SS D A s ws' H1 locs1 → W p l e R s m args below meth c H1 locs1 cells slots Q (F0 m (pc + 3) ls rest)) : W p l e R s m args below meth c H locs cells slots Q (F0 m pc ls (v :: .ref a :: rest)) := by
  subst hws
  exact va_put (T := TX7) (N := 28) hE.1.1 hE.1.2.1 hE.1.2.2.2.2 inG7 tyX7 tyX7_ok nmX7 hE.1.2.2.2.1 hE.2.1 hst.1 hst.2.1 hst.2.2 q0 he rfl 11 (by decide) (hE.1.2.2.2.2 _ wk_3_216) (fun _ h => h) rfl (ty := .long) (by decide +kernel) hn hx hlen hdg (fun H1 l1 g1 g2 g3 => kk H1 l1 ⟨g1, g2, g3⟩)
theorem gf_X7_115 (hE : EV p m c cc nL s args RX7 D cI cJ cZ A) (hst : SS D A s ws H locs) (q0 : Nat) (he : ws[q0]? = some (a, .inr (7, fs))) (hv : fs[12]? = some v) (hdg : decode cc pc = .ok (.getfield 115, 3)) (kk : W p l e R s m args below meth c H locs cells slots Q (F0 m (pc + 3) ls (v :: rest))) : W p l e R s m args below meth c H locs cells slots Q (F0 m pc ls (.ref a :: rest)) :=
  va_get (T := TX7) (N := 28) hE.1.1 hE.1.2.1 hE.1.2.2.2.2 inG7 hE.1.2.2.2.1 hE.2.1 hst.1 q0 he rfl 12 (by decide) (hE.1.2.2.2.2 _ wk_3_217) (fun _ h => h) hv hdg kk
theorem pf_X7_115 (hE : EV p m c cc nL s args RX7 D cI cJ cZ A) (hst : SS D A s ws H locs) (q0 : Nat) (he : ws[q0]? = some (a, .inr (7, fs))) (hx : fits (.long) v = true) (hn : narrow (.long) v = v) (hlen : 12 < fs.length) (ws' : va_W) (hws : ws.set q0 (a, .inr (7, fs.set 12 v)) = ws') (hdg : decode cc pc = .ok (.putfield 115, 3)) (kk : ∀ (H1 : Heap) (locs1 : List Loc), SS D A s ws' H1 locs1 → W p l e R s m args below meth c H1 locs1 cells slots Q (F0 m (pc + 3) ls rest)) : W p l e R s m args below meth c H locs cells slots Q (F0 m pc ls (v :: .ref a :: rest)) := by
  subst hws
  exact va_put (T := TX7) (N := 28) hE.1.1 hE.1.2.1 hE.1.2.2.2.2 inG7 tyX7 tyX7_ok nmX7 hE.1.2.2.2.1 hE.2.1 hst.1 hst.2.1 hst.2.2 q0 he rfl 12 (by decide) (hE.1.2.2.2.2 _ wk_3_217) (fun _ h => h) rfl (ty := .long) (by decide +kernel) hn hx hlen hdg (fun H1 l1 g1 g2 g3 => kk H1 l1 ⟨g1, g2, g3⟩)
theorem gf_X7_41 (hE : EV p m c cc nL s args RX7 D cI cJ cZ A) (hst : SS D A s ws H locs) (q0 : Nat) (he : ws[q0]? = some (a, .inr (7, fs))) (hv : fs[13]? = some v) (hdg : decode cc pc = .ok (.getfield 41, 3)) (kk : W p l e R s m args below meth c H locs cells slots Q (F0 m (pc + 3) ls (v :: rest))) : W p l e R s m args below meth c H locs cells slots Q (F0 m pc ls (.ref a :: rest)) :=
  va_get (T := TX7) (N := 28) hE.1.1 hE.1.2.1 hE.1.2.2.2.2 inG7 hE.1.2.2.2.1 hE.2.1 hst.1 q0 he rfl 13 (by decide) (hE.1.2.2.2.2 _ wk_3_218) (fun _ h => h) hv hdg kk
theorem pf_X7_41 (hE : EV p m c cc nL s args RX7 D cI cJ cZ A) (hst : SS D A s ws H locs) (q0 : Nat) (he : ws[q0]? = some (a, .inr (7, fs))) (hin : meth.name = "<init>") (hx : fits (.array .int) v = true) (hn : narrow (.array .int) v = v) (hlen : 13 < fs.length) (ws' : va_W) (hws : ws.set q0 (a, .inr (7, fs.set 13 v)) = ws') (hdg : decode cc pc = .ok (.putfield 41, 3)) (kk : ∀ (H1 : Heap) (locs1 : List Loc), SS D A s ws' H1 locs1 → W p l e R s m args below meth c H1 locs1 cells slots Q (F0 m (pc + 3) ls rest)) : W p l e R s m args below meth c H locs cells slots Q (F0 m pc ls (v :: .ref a :: rest)) := by
  subst hws
  exact va_putF (T := TX7) (N := 28) hE.1.1 hE.1.2.1 hE.1.2.2.2.2 inG7 tyX7 tyX7_ok nmX7 hE.1.2.2.2.1 hE.2.1 hst.1 hst.2.1 hst.2.2 q0 he rfl 13 (by decide) (hE.1.2.2.2.2 _ wk_3_218) (fun _ h => h) rfl hin rfl (ty := .array .int) (by decide +kernel) hn hx hlen hdg (fun H1 l1 g1 g2 g3 => kk H1 l1 ⟨g1, g2, g3⟩)
theorem gf_X7_44 (hE : EV p m c cc nL s args RX7 D cI cJ cZ A) (hst : SS D A s ws H locs) (q0 : Nat) (he : ws[q0]? = some (a, .inr (7, fs))) (hv : fs[14]? = some v) (hdg : decode cc pc = .ok (.getfield 44, 3)) (kk : W p l e R s m args below meth c H locs cells slots Q (F0 m (pc + 3) ls (v :: rest))) : W p l e R s m args below meth c H locs cells slots Q (F0 m pc ls (.ref a :: rest)) :=
  va_get (T := TX7) (N := 28) hE.1.1 hE.1.2.1 hE.1.2.2.2.2 inG7 hE.1.2.2.2.1 hE.2.1 hst.1 q0 he rfl 14 (by decide) (hE.1.2.2.2.2 _ wk_3_219) (fun _ h => h) hv hdg kk
theorem pf_X7_44 (hE : EV p m c cc nL s args RX7 D cI cJ cZ A) (hst : SS D A s ws H locs) (q0 : Nat) (he : ws[q0]? = some (a, .inr (7, fs))) (hin : meth.name = "<init>") (hx : fits (.array .int) v = true) (hn : narrow (.array .int) v = v) (hlen : 14 < fs.length) (ws' : va_W) (hws : ws.set q0 (a, .inr (7, fs.set 14 v)) = ws') (hdg : decode cc pc = .ok (.putfield 44, 3)) (kk : ∀ (H1 : Heap) (locs1 : List Loc), SS D A s ws' H1 locs1 → W p l e R s m args below meth c H1 locs1 cells slots Q (F0 m (pc + 3) ls rest)) : W p l e R s m args below meth c H locs cells slots Q (F0 m pc ls (v :: .ref a :: rest)) := by
  subst hws
  exact va_putF (T := TX7) (N := 28) hE.1.1 hE.1.2.1 hE.1.2.2.2.2 inG7 tyX7 tyX7_ok nmX7 hE.1.2.2.2.1 hE.2.1 hst.1 hst.2.1 hst.2.2 q0 he rfl 14 (by decide) (hE.1.2.2.2.2 _ wk_3_219) (fun _ h => h) rfl hin rfl (ty := .array .int) (by decide +kernel) hn hx hlen hdg (fun H1 l1 g1 g2 g3 => kk H1 l1 ⟨g1, g2, g3⟩)
theorem gf_X7_47 (hE : EV p m c cc nL s args RX7 D cI cJ cZ A) (hst : SS D A s ws H locs) (q0 : Nat) (he : ws[q0]? = some (a, .inr (7, fs))) (hv : fs[15]? = some v) (hdg : decode cc pc = .ok (.getfield 47, 3)) (kk : W p l e R s m args below meth c H locs cells slots Q (F0 m (pc + 3) ls (v :: rest))) : W p l e R s m args below meth c H locs cells slots Q (F0 m pc ls (.ref a :: rest)) :=
  va_get (T := TX7) (N := 28) hE.1.1 hE.1.2.1 hE.1.2.2.2.2 inG7 hE.1.2.2.2.1 hE.2.1 hst.1 q0 he rfl 15 (by decide) (hE.1.2.2.2.2 _ wk_3_220) (fun _ h => h) hv hdg kk
theorem pf_X7_47 (hE : EV p m c cc nL s args RX7 D cI cJ cZ A) (hst : SS D A s ws H locs) (q0 : Nat) (he : ws[q0]? = some (a, .inr (7, fs))) (hin : meth.name = "<init>") (hx : fits (.array .int) v = true) (hn : narrow (.array .int) v = v) (hlen : 15 < fs.length) (ws' : va_W) (hws : ws.set q0 (a, .inr (7, fs.set 15 v)) = ws') (hdg : decode cc pc = .ok (.putfield 47, 3)) (kk : ∀ (H1 : Heap) (locs1 : List Loc), SS D A s ws' H1 locs1 → W p l e R s m args below meth c H1 locs1 cells slots Q (F0 m (pc + 3) ls rest)) : W p l e R s m args below meth c H locs cells slots Q (F0 m pc ls (v :: .ref a :: rest)) := by
  subst hws
  exact va_putF (T := TX7) (N := 28) hE.1.1 hE.1.2.1 hE.1.2.2.2.2 inG7 tyX7 tyX7_ok nmX7 hE.1.2.2.2.1 hE.2.1 hst.1 hst.2.1 hst.2.2 q0 he rfl 15 (by decide) (hE.1.2.2.2.2 _ wk_3_220) (fun _ h => h) rfl hin rfl (ty := .array .int) (by decide +kernel) hn hx hlen hdg (fun H1 l1 g1 g2 g3 => kk H1 l1 ⟨g1, g2, g3⟩)
theorem gf_X7_50 (hE : EV p m c cc nL s args RX7 D cI cJ cZ A) (hst : SS D A s ws H locs) (q0 : Nat) (he : ws[q0]? = some (a, .inr (7, fs))) (hv : fs[16]? = some v) (hdg : decode cc pc = .ok (.getfield 50, 3)) (kk : W p l e R s m args below meth c H locs cells slots Q (F0 m (pc + 3) ls (v :: rest))) : W p l e R s m args below meth c H locs cells slots Q (F0 m pc ls (.ref a :: rest)) :=
  va_get (T := TX7) (N := 28) hE.1.1 hE.1.2.1 hE.1.2.2.2.2 inG7 hE.1.2.2.2.1 hE.2.1 hst.1 q0 he rfl 16 (by decide) (hE.1.2.2.2.2 _ wk_3_221) (fun _ h => h) hv hdg kk
theorem pf_X7_50 (hE : EV p m c cc nL s args RX7 D cI cJ cZ A) (hst : SS D A s ws H locs) (q0 : Nat) (he : ws[q0]? = some (a, .inr (7, fs))) (hin : meth.name = "<init>") (hx : fits (.array .int) v = true) (hn : narrow (.array .int) v = v) (hlen : 16 < fs.length) (ws' : va_W) (hws : ws.set q0 (a, .inr (7, fs.set 16 v)) = ws') (hdg : decode cc pc = .ok (.putfield 50, 3)) (kk : ∀ (H1 : Heap) (locs1 : List Loc), SS D A s ws' H1 locs1 → W p l e R s m args below meth c H1 locs1 cells slots Q (F0 m (pc + 3) ls rest)) : W p l e R s m args below meth c H locs cells slots Q (F0 m pc ls (v :: .ref a :: rest)) := by
  subst hws
  exact va_putF (T := TX7) (N := 28) hE.1.1 hE.1.2.1 hE.1.2.2.2.2 inG7 tyX7 tyX7_ok nmX7 hE.1.2.2.2.1 hE.2.1 hst.1 hst.2.1 hst.2.2 q0 he rfl 16 (by decide) (hE.1.2.2.2.2 _ wk_3_221) (fun _ h => h) rfl hin rfl (ty := .array .int) (by decide +kernel) hn hx hlen hdg (fun H1 l1 g1 g2 g3 => kk H1 l1 ⟨g1, g2, g3⟩)
theorem gf_X7_53 (hE : EV p m c cc nL s args RX7 D cI cJ cZ A) (hst : SS D A s ws H locs) (q0 : Nat) (he : ws[q0]? = some (a, .inr (7, fs))) (hv : fs[17]? = some v) (hdg : decode cc pc = .ok (.getfield 53, 3)) (kk : W p l e R s m args below meth c H locs cells slots Q (F0 m (pc + 3) ls (v :: rest))) : W p l e R s m args below meth c H locs cells slots Q (F0 m pc ls (.ref a :: rest)) :=
  va_get (T := TX7) (N := 28) hE.1.1 hE.1.2.1 hE.1.2.2.2.2 inG7 hE.1.2.2.2.1 hE.2.1 hst.1 q0 he rfl 17 (by decide) (hE.1.2.2.2.2 _ wk_3_222) (fun _ h => h) hv hdg kk
theorem pf_X7_53 (hE : EV p m c cc nL s args RX7 D cI cJ cZ A) (hst : SS D A s ws H locs) (q0 : Nat) (he : ws[q0]? = some (a, .inr (7, fs))) (hin : meth.name = "<init>") (hx : fits (.array .int) v = true) (hn : narrow (.array .int) v = v) (hlen : 17 < fs.length) (ws' : va_W) (hws : ws.set q0 (a, .inr (7, fs.set 17 v)) = ws') (hdg : decode cc pc = .ok (.putfield 53, 3)) (kk : ∀ (H1 : Heap) (locs1 : List Loc), SS D A s ws' H1 locs1 → W p l e R s m args below meth c H1 locs1 cells slots Q (F0 m (pc + 3) ls rest)) : W p l e R s m args below meth c H locs cells slots Q (F0 m pc ls (v :: .ref a :: rest)) := by
  subst hws
  exact va_putF (T := TX7) (N := 28) hE.1.1 hE.1.2.1 hE.1.2.2.2.2 inG7 tyX7 tyX7_ok nmX7 hE.1.2.2.2.1 hE.2.1 hst.1 hst.2.1 hst.2.2 q0 he rfl 17 (by decide) (hE.1.2.2.2.2 _ wk_3_222) (fun _ h => h) rfl hin rfl (ty := .array .int) (by decide +kernel) hn hx hlen hdg (fun H1 l1 g1 g2 g3 => kk H1 l1 ⟨g1, g2, g3⟩)
theorem gf_X7_56 (hE : EV p m c cc nL s args RX7 D cI cJ cZ A) (hst : SS D A s ws H locs) (q0 : Nat) (he : ws[q0]? = some (a, .inr (7, fs))) (hv : fs[18]? = some v) (hdg : decode cc pc = .ok (.getfield 56, 3)) (kk : W p l e R s m args below meth c H locs cells slots Q (F0 m (pc + 3) ls (v :: rest))) : W p l e R s m args below meth c H locs cells slots Q (F0 m pc ls (.ref a :: rest)) :=
  va_get (T := TX7) (N := 28) hE.1.1 hE.1.2.1 hE.1.2.2.2.2 inG7 hE.1.2.2.2.1 hE.2.1 hst.1 q0 he rfl 18 (by decide) (hE.1.2.2.2.2 _ wk_3_223) (fun _ h => h) hv hdg kk
theorem pf_X7_56 (hE : EV p m c cc nL s args RX7 D cI cJ cZ A) (hst : SS D A s ws H locs) (q0 : Nat) (he : ws[q0]? = some (a, .inr (7, fs))) (hin : meth.name = "<init>") (hx : fits (.array .int) v = true) (hn : narrow (.array .int) v = v) (hlen : 18 < fs.length) (ws' : va_W) (hws : ws.set q0 (a, .inr (7, fs.set 18 v)) = ws') (hdg : decode cc pc = .ok (.putfield 56, 3)) (kk : ∀ (H1 : Heap) (locs1 : List Loc), SS D A s ws' H1 locs1 → W p l e R s m args below meth c H1 locs1 cells slots Q (F0 m (pc + 3) ls rest)) : W p l e R s m args below meth c H locs cells slots Q (F0 m pc ls (v :: .ref a :: rest)) := by
  subst hws
  exact va_putF (T := TX7) (N := 28) hE.1.1 hE.1.2.1 hE.1.2.2.2.2 inG7 tyX7 tyX7_ok nmX7 hE.1.2.2.2.1 hE.2.1 hst.1 hst.2.1 hst.2.2 q0 he rfl 18 (by decide) (hE.1.2.2.2.2 _ wk_3_223) (fun _ h => h) rfl hin rfl (ty := .array .int) (by decide +kernel) hn hx hlen hdg (fun H1 l1 g1 g2 g3 => kk H1 l1 ⟨g1, g2, g3⟩)
theorem gf_X7_148 (hE : EV p m c cc nL s args RX7 D cI cJ cZ A) (hst : SS D A s ws H locs) (q0 : Nat) (he : ws[q0]? = some (a, .inr (7, fs))) (hv : fs[19]? = some v) (hdg : decode cc pc = .ok (.getfield 148, 3)) (kk : W p l e R s m args below meth c H locs cells slots Q (F0 m (pc + 3) ls (v :: rest))) : W p l e R s m args below meth c H locs cells slots Q (F0 m pc ls (.ref a :: rest)) :=
  va_get (T := TX7) (N := 28) hE.1.1 hE.1.2.1 hE.1.2.2.2.2 inG7 hE.1.2.2.2.1 hE.2.1 hst.1 q0 he rfl 19 (by decide) (hE.1.2.2.2.2 _ wk_3_224) (fun _ h => h) hv hdg kk
theorem pf_X7_148 (hE : EV p m c cc nL s args RX7 D cI cJ cZ A) (hst : SS D A s ws H locs) (q0 : Nat) (he : ws[q0]? = some (a, .inr (7, fs))) (hx : fits (.int) v = true) (hn : narrow (.int) v = v) (hlen : 19 < fs.length) (ws' : va_W) (hws : ws.set q0 (a, .inr (7, fs.set 19 v)) = ws') (hdg : decode cc pc = .ok (.putfield 148, 3)) (kk : ∀ (H1 : Heap) (locs1 : List Loc), SS D A s ws' H1 locs1 → W p l e R s m args below meth c H1 locs1 cells slots Q (F0 m (pc + 3) ls rest)) : W p l e R s m args below meth c H locs cells slots Q (F0 m pc ls (v :: .ref a :: rest)) := by
  subst hws
  exact va_put (T := TX7) (N := 28) hE.1.1 hE.1.2.1 hE.1.2.2.2.2 inG7 tyX7 tyX7_ok nmX7 hE.1.2.2.2.1 hE.2.1 hst.1 hst.2.1 hst.2.2 q0 he rfl 19 (by decide) (hE.1.2.2.2.2 _ wk_3_224) (fun _ h => h) rfl (ty := .int) (by decide +kernel) hn hx hlen hdg (fun H1 l1 g1 g2 g3 => kk H1 l1 ⟨g1, g2, g3⟩)
theorem gf_X7_153 (hE : EV p m c cc nL s args RX7 D cI cJ cZ A) (hst : SS D A s ws H locs) (q0 : Nat) (he : ws[q0]? = some (a, .inr (7, fs))) (hv : fs[20]? = some v) (hdg : decode cc pc = .ok (.getfield 153, 3)) (kk : W p l e R s m args below meth c H locs cells slots Q (F0 m (pc + 3) ls (v :: rest))) : W p l e R s m args below meth c H locs cells slots Q (F0 m pc ls (.ref a :: rest)) :=
  va_get (T := TX7) (N := 28) hE.1.1 hE.1.2.1 hE.1.2.2.2.2 inG7 hE.1.2.2.2.1 hE.2.1 hst.1 q0 he rfl 20 (by decide) (hE.1.2.2.2.2 _ wk_3_225) (fun _ h => h) hv hdg kk
theorem pf_X7_153 (hE : EV p m c cc nL s args RX7 D cI cJ cZ A) (hst : SS D A s ws H locs) (q0 : Nat) (he : ws[q0]? = some (a, .inr (7, fs))) (hx : fits (.int) v = true) (hn : narrow (.int) v = v) (hlen : 20 < fs.length) (ws' : va_W) (hws : ws.set q0 (a, .inr (7, fs.set 20 v)) = ws') (hdg : decode cc pc = .ok (.putfield 153, 3)) (kk : ∀ (H1 : Heap) (locs1 : List Loc), SS D A s ws' H1 locs1 → W p l e R s m args below meth c H1 locs1 cells slots Q (F0 m (pc + 3) ls rest)) : W p l e R s m args below meth c H locs cells slots Q (F0 m pc ls (v :: .ref a :: rest)) := by
  subst hws
  exact va_put (T := TX7) (N := 28) hE.1.1 hE.1.2.1 hE.1.2.2.2.2 inG7 tyX7 tyX7_ok nmX7 hE.1.2.2.2.1 hE.2.1 hst.1 hst.2.1 hst.2.2 q0 he rfl 20 (by decide) (hE.1.2.2.2.2 _ wk_3_225) (fun _ h => h) rfl (ty := .int) (by decide +kernel) hn hx hlen hdg (fun H1 l1 g1 g2 g3 => kk H1 l1 ⟨g1, g2, g3⟩)
theorem gf_X7_163 (hE : EV p m c cc nL s args RX7 D cI cJ cZ A) (hst : SS D A s ws H locs) (q0 : Nat) (he : ws[q0]? = some (a, .inr (7, fs))) (hv : fs[21]? = some v) (hdg : decode cc pc = .ok (.getfield 163, 3)) (kk : W p l e R s m args below meth c H locs cells slots Q (F0 m (pc + 3) ls (v :: rest))) : W p l e R s m args below meth c H locs cells slots Q (F0 m pc ls (.ref a :: rest)) :=
  va_get (T := TX7) (N := 28) hE.1.1 hE.1.2.1 hE.1.2.2.2.2 inG7 hE.1.2.2.2.1 hE.2.1 hst.1 q0 he rfl 21 (by decide) (hE.1.2.2.2.2 _ wk_3_226) (fun _ h => h) hv hdg kk
theorem pf_X7_163 (hE : EV p m c cc nL s args RX7 D cI cJ cZ A) (hst : SS D A s ws H locs) (q0 : Nat) (he : ws[q0]? = some (a, .inr (7, fs))) (hx : fits (.int) v = true) (hn : narrow (.int) v = v) (hlen : 21 < fs.length) (ws' : va_W) (hws : ws.set q0 (a, .inr (7, fs.set 21 v)) = ws') (hdg : decode cc pc = .ok (.putfield 163, 3)) (kk : ∀ (H1 : Heap) (locs1 : List Loc), SS D A s ws' H1 locs1 → W p l e R s m args below meth c H1 locs1 cells slots Q (F0 m (pc + 3) ls rest)) : W p l e R s m args below meth c H locs cells slots Q (F0 m pc ls (v :: .ref a :: rest)) := by
  subst hws
  exact va_put (T := TX7) (N := 28) hE.1.1 hE.1.2.1 hE.1.2.2.2.2 inG7 tyX7 tyX7_ok nmX7 hE.1.2.2.2.1 hE.2.1 hst.1 hst.2.1 hst.2.2 q0 he rfl 21 (by decide) (hE.1.2.2.2.2 _ wk_3_226) (fun _ h => h) rfl (ty := .int) (by decide +kernel) hn hx hlen hdg (fun H1 l1 g1 g2 g3 => kk H1 l1 ⟨g1, g2, g3⟩)
theorem gf_X7_59 (hE : EV p m c cc nL s args RX7 D cI cJ cZ A) (hst : SS D A s ws H locs) (q0 : Nat) (he : ws[q0]? = some (a, .inr (7, fs))) (hv : fs[22]? = some v) (hdg : decode cc pc = .ok (.getfield 59, 3)) (kk : W p l e R s m args below meth c H locs cells slots Q (F0 m (pc + 3) ls (v :: rest))) : W p l e R s m args below meth c H locs cells slots Q (F0 m pc ls (.ref a :: rest)) :=
  va_get (T := TX7) (N := 28) hE.1.1 hE.1.2.1 hE.1.2.2.2.2 inG7 hE.1.2.2.2.1 hE.2.1 hst.1 q0 he rfl 22 (by decide) (hE.1.2.2.2.2 _ wk_3_227) (fun _ h => h) hv hdg kk
theorem pf_X7_59 (hE : EV p m c cc nL s args RX7 D cI cJ cZ A) (hst : SS D A s ws H locs) (q0 : Nat) (he : ws[q0]? = some (a, .inr (7, fs))) (hx : fits (.int) v = true) (hn : narrow (.int) v = v) (hlen : 22 < fs.length) (ws' : va_W) (hws : ws.set q0 (a, .inr (7, fs.set 22 v)) = ws') (hdg : decode cc pc = .ok (.putfield 59, 3)) (kk : ∀ (H1 : Heap) (locs1 : List Loc), SS D A s ws' H1 locs1 → W p l e R s m args below meth c H1 locs1 cells slots Q (F0 m (pc + 3) ls rest)) : W p l e R s m args below meth c H locs cells slots Q (F0 m pc ls (v :: .ref a :: rest)) := by
  subst hws
  exact va_put (T := TX7) (N := 28) hE.1.1 hE.1.2.1 hE.1.2.2.2.2 inG7 tyX7 tyX7_ok nmX7 hE.1.2.2.2.1 hE.2.1 hst.1 hst.2.1 hst.2.2 q0 he rfl 22 (by decide) (hE.1.2.2.2.2 _ wk_3_227) (fun _ h => h) rfl (ty := .int) (by decide +kernel) hn hx hlen hdg (fun H1 l1 g1 g2 g3 => kk H1 l1 ⟨g1, g2, g3⟩)
theorem gf_X7_63 (hE : EV p m c cc nL s args RX7 D cI cJ cZ A) (hst : SS D A s ws H locs) (q0 : Nat) (he : ws[q0]? = some (a, .inr (7, fs))) (hv : fs[23]? = some v) (hdg : decode cc pc = .ok (.getfield 63, 3)) (kk : W p l e R s m args below meth c H locs cells slots Q (F0 m (pc + 3) ls (v :: rest))) : W p l e R s m args below meth c H locs cells slots Q (F0 m pc ls (.ref a :: rest)) :=
  va_get (T := TX7) (N := 28) hE.1.1 hE.1.2.1 hE.1.2.2.2.2 inG7 hE.1.2.2.2.1 hE.2.1 hst.1 q0 he rfl 23 (by decide) (hE.1.2.2.2.2 _ wk_3_228) (fun _ h => h) hv hdg kk
theorem pf_X7_63 (hE : EV p m c cc nL s args RX7 D cI cJ cZ A) (hst : SS D A s ws H locs) (q0 : Nat) (he : ws[q0]? = some (a, .inr (7, fs))) (hx : fits (.int) v = true) (hn : narrow (.int) v = v) (hlen : 23 < fs.length) (ws' : va_W) (hws : ws.set q0 (a, .inr (7, fs.set 23 v)) = ws') (hdg : decode cc pc = .ok (.putfield 63, 3)) (kk : ∀ (H1 : Heap) (locs1 : List Loc), SS D A s ws' H1 locs1 → W p l e R s m args below meth c H1 locs1 cells slots Q (F0 m (pc + 3) ls rest)) : W p l e R s m args below meth c H locs cells slots Q (F0 m pc ls (v :: .ref a :: rest)) := by
  subst hws
  exact va_put (T := TX7) (N := 28) hE.1.1 hE.1.2.1 hE.1.2.2.2.2 inG7 tyX7 tyX7_ok nmX7 hE.1.2.2.2.1 hE.2.1 hst.1 hst.2.1 hst.2.2 q0 he rfl 23 (by decide) (hE.1.2.2.2.2 _ wk_3_228) (fun _ h => h) rfl (ty := .int) (by decide +kernel) hn hx hlen hdg (fun H1 l1 g1 g2 g3 => kk H1 l1 ⟨g1, g2, g3⟩)
theorem gf_X7_66 (hE : EV p m c cc nL s args RX7 D cI cJ cZ A) (hst : SS D A s ws H locs) (q0 : Nat) (he : ws[q0]? = some (a, .inr (7, fs))) (hv : fs[24]? = some v) (hdg : decode cc pc = .ok (.getfield 66, 3)) (kk : W p l e R s m args below meth c H locs cells slots Q (F0 m (pc + 3) ls (v :: rest))) : W p l e R s m args below meth c H locs cells slots Q (F0 m pc ls (.ref a :: rest)) :=
  va_get (T := TX7) (N := 28) hE.1.1 hE.1.2.1 hE.1.2.2.2.2 inG7 hE.1.2.2.2.1 hE.2.1 hst.1 q0 he rfl 24 (by decide) (hE.1.2.2.2.2 _ wk_3_229) (fun _ h => h) hv hdg kk
theorem pf_X7_66 (hE : EV p m c cc nL s args RX7 D cI cJ cZ A) (hst : SS D A s ws H locs) (q0 : Nat) (he : ws[q0]? = some (a, .inr (7, fs))) (hin : meth.name = "<init>") (hx : fits (.array .int) v = true) (hn : narrow (.array .int) v = v) (hlen : 24 < fs.length) (ws' : va_W) (hws : ws.set q0 (a, .inr (7, fs.set 24 v)) = ws') (hdg : decode cc pc = .ok (.putfield 66, 3)) (kk : ∀ (H1 : Heap) (locs1 : List Loc), SS D A s ws' H1 locs1 → W p l e R s m args below meth c H1 locs1 cells slots Q (F0 m (pc + 3) ls rest)) : W p l e R s m args below meth c H locs cells slots Q (F0 m pc ls (v :: .ref a :: rest)) := by
  subst hws
  exact va_putF (T := TX7) (N := 28) hE.1.1 hE.1.2.1 hE.1.2.2.2.2 inG7 tyX7 tyX7_ok nmX7 hE.1.2.2.2.1 hE.2.1 hst.1 hst.2.1 hst.2.2 q0 he rfl 24 (by decide) (hE.1.2.2.2.2 _ wk_3_229) (fun _ h => h) rfl hin rfl (ty := .array .int) (by decide +kernel) hn hx hlen hdg (fun H1 l1 g1 g2 g3 => kk H1 l1 ⟨g1, g2, g3⟩)
theorem gf_X7_221 (hE : EV p m c cc nL s args RX7 D cI cJ cZ A) (hst : SS D A s ws H locs) (q0 : Nat) (he : ws[q0]? = some (a, .inr (7, fs))) (hv : fs[25]? = some v) (hdg : decode cc pc = .ok (.getfield 221, 3)) (kk : W p l e R s m args below meth c H locs cells slots Q (F0 m (pc + 3) ls (v :: rest))) : W p l e R s m args below meth c H locs cells slots Q (F0 m pc ls (.ref a :: rest)) :=
  va_get (T := TX7) (N := 28) hE.1.1 hE.1.2.1 hE.1.2.2.2.2 inG7 hE.1.2.2.2.1 hE.2.1 hst.1 q0 he rfl 25 (by decide) (hE.1.2.2.2.2 _ wk_3_230) (fun _ h => h) hv hdg kk
theorem pf_X7_221 (hE : EV p m c cc nL s args RX7 D cI cJ cZ A) (hst : SS D A s ws H locs) (q0 : Nat) (he : ws[q0]? = some (a, .inr (7, fs))) (hx : fits (.boolean) v = true) (hn : narrow (.boolean) v = v) (hlen : 25 < fs.length) (ws' : va_W) (hws : ws.set q0 (a, .inr (7, fs.set 25 v)) = ws') (hdg : decode cc pc = .ok (.putfield 221, 3)) (kk : ∀ (H1 : Heap) (locs1 : List Loc), SS D A s ws' H1 locs1 → W p l e R s m args below meth c H1 locs1 cells slots Q (F0 m (pc + 3) ls rest)) : W p l e R s m args below meth c H locs cells slots Q (F0 m pc ls (v :: .ref a :: rest)) := by
  subst hws
  exact va_put (T := TX7) (N := 28) hE.1.1 hE.1.2.1 hE.1.2.2.2.2 inG7 tyX7 tyX7_ok nmX7 hE.1.2.2.2.1 hE.2.1 hst.1 hst.2.1 hst.2.2 q0 he rfl 25 (by decide) (hE.1.2.2.2.2 _ wk_3_230) (fun _ h => h) rfl (ty := .boolean) (by decide +kernel) hn hx hlen hdg (fun H1 l1 g1 g2 g3 => kk H1 l1 ⟨g1, g2, g3⟩)
theorem gf_X7_207 (hE : EV p m c cc nL s args RX7 D cI cJ cZ A) (hst : SS D A s ws H locs) (q0 : Nat) (he : ws[q0]? = some (a, .inr (7, fs))) (hv : fs[26]? = some v) (hdg : decode cc pc = .ok (.getfield 207, 3)) (kk : W p l e R s m args below meth c H locs cells slots Q (F0 m (pc + 3) ls (v :: rest))) : W p l e R s m args below meth c H locs cells slots Q (F0 m pc ls (.ref a :: rest)) :=
  va_get (T := TX7) (N := 28) hE.1.1 hE.1.2.1 hE.1.2.2.2.2 inG7 hE.1.2.2.2.1 hE.2.1 hst.1 q0 he rfl 26 (by decide) (hE.1.2.2.2.2 _ wk_3_231) (fun _ h => h) hv hdg kk
theorem pf_X7_207 (hE : EV p m c cc nL s args RX7 D cI cJ cZ A) (hst : SS D A s ws H locs) (q0 : Nat) (he : ws[q0]? = some (a, .inr (7, fs))) (hx : fits (.boolean) v = true) (hn : narrow (.boolean) v = v) (hlen : 26 < fs.length) (ws' : va_W) (hws : ws.set q0 (a, .inr (7, fs.set 26 v)) = ws') (hdg : decode cc pc = .ok (.putfield 207, 3)) (kk : ∀ (H1 : Heap) (locs1 : List Loc), SS D A s ws' H1 locs1 → W p l e R s m args below meth c H1 locs1 cells slots Q (F0 m (pc + 3) ls rest)) : W p l e R s m args below meth c H locs cells slots Q (F0 m pc ls (v :: .ref a :: rest)) := by
  subst hws
  exact va_put (T := TX7) (N := 28) hE.1.1 hE.1.2.1 hE.1.2.2.2.2 inG7 tyX7 tyX7_ok nmX7 hE.1.2.2.2.1 hE.2.1 hst.1 hst.2.1 hst.2.2 q0 he rfl 26 (by decide) (hE.1.2.2.2.2 _ wk_3_231) (fun _ h => h) rfl (ty := .boolean) (by decide +kernel) hn hx hlen hdg (fun H1 l1 g1 g2 g3 => kk H1 l1 ⟨g1, g2, g3⟩)
theorem gf_X7_211 (hE : EV p m c cc nL s args RX7 D cI cJ cZ A) (hst : SS D A s ws H locs) (q0 : Nat) (he : ws[q0]? = some (a, .inr (7, fs))) (hv : fs[27]? = some v) (hdg : decode cc pc = .ok (.getfield 211, 3)) (kk : W p l e R s m args below meth c H locs cells slots Q (F0 m (pc + 3) ls (v :: rest))) : W p l e R s m args below meth c H locs cells slots Q (F0 m pc ls (.ref a :: rest)) :=
  va_get (T := TX7) (N := 28) hE.1.1 hE.1.2.1 hE.1.2.2.2.2 inG7 hE.1.2.2.2.1 hE.2.1 hst.1 q0 he rfl 27 (by decide) (hE.1.2.2.2.2 _ wk_3_232) (fun _ h => h) hv hdg kk
theorem pf_X7_211 (hE : EV p m c cc nL s args RX7 D cI cJ cZ A) (hst : SS D A s ws H locs) (q0 : Nat) (he : ws[q0]? = some (a, .inr (7, fs))) (hx : fits (.int) v = true) (hn : narrow (.int) v = v) (hlen : 27 < fs.length) (ws' : va_W) (hws : ws.set q0 (a, .inr (7, fs.set 27 v)) = ws') (hdg : decode cc pc = .ok (.putfield 211, 3)) (kk : ∀ (H1 : Heap) (locs1 : List Loc), SS D A s ws' H1 locs1 → W p l e R s m args below meth c H1 locs1 cells slots Q (F0 m (pc + 3) ls rest)) : W p l e R s m args below meth c H locs cells slots Q (F0 m pc ls (v :: .ref a :: rest)) := by
  subst hws
  exact va_put (T := TX7) (N := 28) hE.1.1 hE.1.2.1 hE.1.2.2.2.2 inG7 tyX7 tyX7_ok nmX7 hE.1.2.2.2.1 hE.2.1 hst.1 hst.2.1 hst.2.2 q0 he rfl 27 (by decide) (hE.1.2.2.2.2 _ wk_3_232) (fun _ h => h) rfl (ty := .int) (by decide +kernel) hn hx hlen hdg (fun H1 l1 g1 g2 g3 => kk H1 l1 ⟨g1, g2, g3⟩)
end LK
end
section
/-! at, put, copyRow of the class; at on a static table -/
def atI (N : Nat) (f : Nat → Int32) (p : Int32) : Int32 := if p < 0 then 0 else if nI N ≤ p then 0 else f p.toNatClampNeg
def putI (N : Nat) (f : Nat → Int32) (p v : Int32) : Nat → Int32 := if p < 0 then f else if nI N ≤ p then f else upd f p.toNatClampNeg v
theorem vp_of {p : Int32} {N : Nat} (hN : N < 2147483648) (h1 : ¬ p < 0) (h2 : ¬ nI N ≤ p) : vp_in p N := by
  obtain ⟨j, hj, rfl⟩ := nI_of h1
  exact vp_in_nI (Nat.lt_of_not_le fun h => h2 (nI_le h hj)) hN
theorem atI_n {N : Nat} {f : Nat → Int32} {k : Nat} (hk : k < N) (hN : N < 2147483648) : atI N f (nI k) = f k := by
  rw [atI, if_neg (nI_pos (by omega)), if_neg (nI_ge hk hN), nI_clamp (by omega)]
theorem atI_out {N : Nat} {f : Nat → Int32} {p : Int32} (h : p < 0) : atI N f p = 0 := by rw [atI, if_pos h]
theorem atI_big {N : Nat} {f : Nat → Int32} {k : Nat} (hk : N ≤ k) (h : k < 2147483648) : atI N f (nI k) = 0 := by
  rw [atI, if_neg (nI_pos (by omega)), if_pos (nI_le hk h)]
theorem putI_n {N : Nat} {f : Nat → Int32} {k : Nat} {v : Int32} (hk : k < N) (hN : N < 2147483648) : putI N f (nI k) v = upd f k v := by
  rw [putI, if_neg (nI_pos (by omega)), if_neg (nI_ge hk hN), nI_clamp (by omega)]
set_option maxHeartbeats 4000000 in
set_option maxRecDepth 100000 in
theorem c_atT (l : Launch) (D : va_G) (cI cJ cZ : ClassId) (t N : Nat) (f : Nat → Int32) (p0 : Int32) (hN : N < 2147483648) (sz : Nat) : Met l yX6_at (wU yX6_at cX6_at 2 (some .int)) (rmN 0 0 0) (fun v U => va_Pc [.ref t, .int p0] (PcU D cI cJ cZ [] sz) v U ∧ va_T .int t N (fV f) (va_A [] sz) U U.heap) (va_Qi (fun r (_ : Unit) => r = atI N f p0 ∧ True) (Bd D (va_A [] sz) (fun _ => [])) (va_A [] sz)) 0 0 (va_A [] sz) := by
  refine Met.ofW (cc := cX6_at) (maxL := 2) (ret := some .int) rfl rfl ?_
  intro p e s m args below meth c s₁ B hml hv
  obtain ⟨⟨rfl, hsz, hP, hK, hD0, hG⟩, hT⟩ := hv
  subst hsz
  have hx := B.exec
  have hb := B.bytes
  have hr := B.returns
  have hk := B.notSynchronized
  have hl := lv_entry [.ref t, .int p0] (n := 2) (Nat.le_of_ble_eq_true rfl)
  rw [lg_entry_eq]
  generalize (lg_sl [Value.ref t, .int p0] ++ List.replicate (2 - (lg_sl [Value.ref t, .int p0]).length) Slot.unset).toArray = ls at hl ⊢
  have hl : lv_has ls 2 [(0, .ref t), (1, .int p0)] := hl
  have hts := atoms_spec (ws := wU yX6_at cX6_at 2 (some .int)) B.pre
  have hE : EV p m c cX6_at 2 s #[.ref t, .int p0] RX6 D cI cJ cZ (va_A [] s.heap.size) := ⟨⟨hx, hb, hml, findClass_of_methodNamed B.named, fun w hw => hts w (List.mem_cons_of_mem _ hw)⟩, hK, hG, fun q h => Or.inr h⟩
  have hst : SS D (va_A [] s.heap.size) s [] s.heap [] := ⟨hP, hD0.self, va_S.rf⟩
  show W p l e (rmN 0 0 0) s m #[.ref t, .int p0] below meth c s.heap [] 0 0 _ _
  refine lv_iload_n hx hb dX6_at_0 rfl (lv_at hl 1 rfl) ?_
  refine lv_if_lt (tgt := 16) hx hb dX6_at_1 (by decide) (fun c_1 => ?_) (fun c_1 => ?_)
  · refine lv_iconst (v := 0) hx hb dX6_at_16 (by decide) ?_
    exact q_retI rfl hE hr hk hst () (by rw [atI, if_pos c_1]) trivial rfl dX6_at_17
  · refine lv_iload_n hx hb dX6_at_4 rfl (lv_at hl 1 rfl) ?_
    refine lv_aload_n hx hb dX6_at_5 rfl (lv_at hl 0 rfl) ?_
    refine va_tlen hx hb hT hst.2.2 (v := nI N) rfl dX6_at_6 ?_
    refine lv_icmp_ge (tgt := 16) hx hb dX6_at_7 (by decide) (fun c_7 => ?_) (fun c_7 => ?_)
    · refine lv_iconst (v := 0) hx hb dX6_at_16 (by decide) ?_
      exact q_retI rfl hE hr hk hst () (by rw [atI, if_neg c_1, if_pos c_7]) trivial rfl dX6_at_17
    · refine lv_aload_n hx hb dX6_at_10 rfl (lv_at hl 0 rfl) ?_
      refine lv_iload_n hx hb dX6_at_11 rfl (lv_at hl 1 rfl) ?_
      refine va_ti hx hb hT hst.2.2 (vp_of hN c_1 c_7) (v := .int (f p0.toNatClampNeg)) rfl dX6_at_12 ?_
      refine lv_goto (tgt := 17) hx hb dX6_at_13 (by decide) ?_
      exact q_retI rfl hE hr hk hst () (by rw [atI, if_neg c_1, if_neg c_7]) trivial rfl dX6_at_17
section QT
variable {p : Program} {l : Launch} {e : Env} {R : Room} {s : State} {m : MethodId} {args : Array Value} {below : List Frame} {meth : Method} {c : Code} {H : Heap} {locs : List Loc} {cells slots : Nat} {Q : State → Prop}
variable {cc : ByteArray} {pc : Nat} {ls : Array Slot} {rest : List Value} {D : va_G} {A : Nat → Prop} {ws : va_W} {cI cJ cZ : ClassId} {nL : Nat} {own host : String} {idx t N : Nat} {f : Nat → Int32} {i : Int32}
theorem q_tabP (hE : EV p m c cc nL s args own D cI cJ cZ A) (hst : SS D A s ws H locs) (hT : va_T .int t N (fV f) A s s.heap) : PreS s H (fun v U => va_Pc [.ref t, .int i] (PcU D cI cJ cZ [] H.size) v U ∧ va_T .int t N (fV f) (va_A [] H.size) U U.heap) [.ref t, .int i] := by
  have h0 := q_hp hE hst (isC := []) (wc := []) rfl rfl [.ref t, .int i]
  have hF := va_free hst.2.1 hst.2.2 hE.2.2.2 [] (wc := []) rfl
  refine ⟨fun a U g mk q => ⟨h0.1 a U g mk q.1, va_T.moved (u := U) (U := U.calling g mk a) (Vm.Alike.refl U.vm) q.2⟩, fun U hU hW => ⟨h0.2 U hU hW, ?_⟩⟩
  rw [hU]
  exact ((hT.moved hW.alike).kept (fun a h1 h2 => hst.2.2.2.1 a h1 h2)).narrow hF
theorem q_tabG (hE : EV p m c cc nL s args own D cI cJ cZ A) (hst : SS D A s ws H locs) (hr : va_Run p l e R s m args below meth c H locs cells slots 0 0 (F0 m pc ls (.int i :: .ref t :: rest)) rest (va_Qi (fun r (_ : Unit) => r = atI N f i ∧ True) (Bd D (va_A [] H.size) (fun _ => [])) (va_A [] H.size) [Value.ref t, .int i].toArray) (va_A [] H.size)) (kk : ∀ (H1 : Heap) (locs1 : List Loc), SS D A s ws H1 locs1 → W p l e R s m args below meth c H1 locs1 cells slots Q (F0 m (pc + 3) ls (.int (atI N f i) :: rest))) : W p l e R s m args below meth c H locs cells slots Q (F0 m pc ls (.int i :: .ref t :: rest)) :=
  q_goI hr hE hst [] rfl (fun _ => rfl) (fun _ => ws) (fun _ => by rw [q_put]; exact List.append_nil ws) (fun _ H1 l1 _ h => kk H1 l1 h)
theorem q_tab (hE : EV p m c cc nL s args own D cI cJ cZ A) (lk : LkS own idx yX6_at cX6_at 2 (some .int) 2) (hst : SS D A s ws H locs) (hT : va_T .int t N (fV f) A s s.heap) (hN : N < 2147483648) (hsz : ls.size = nL) (hroom : 1 ≤ R.frames ∧ 21 ≤ R.locals) (hrest : (rest.map fun v => v.category).sum ≤ 8) (hf : cells ≤ R.cells ∧ slots ≤ R.slots) (hdg : decode cc pc = .ok (.invokestatic idx, 3))
    (kk : ∀ (H1 : Heap) (locs1 : List Loc), SS D A s ws H1 locs1 → W p l e R s m args below meth c H1 locs1 cells slots Q (F0 m (pc + 3) ls (.int (atI N f i) :: rest))) : W p l e R s m args below meth c H locs cells slots Q (F0 m pc ls (.int i :: .ref t :: rest)) := by
  obtain ⟨g1, g2, g4, g5, g6⟩ := lk
  have hts := hE.1.2.2.2.2
  exact q_tabG hE hst (va_runS hE.1 (c_atT l D cI cJ cZ t N f i hN H.size) ⟨callB_of 2 hts (goodU g5) rfl rfl rfl (hts _ g4) (hts _ g1) g6 hroom, hts _ g2⟩ (q_tabP hE hst hT) rfl rfl hsz rfl (lv_room hrest) hdg hf) kk
theorem q_tabN (hE : EV p m c cc nL s args own D cI cJ cZ A) (lk : LkNS own idx yX6_at host cX6_at 2 (some .int) 2) (hst : SS D A s ws H locs) (hT : va_T .int t N (fV f) A s s.heap) (hN : N < 2147483648) (hsz : ls.size = nL) (hroom : 1 ≤ R.frames ∧ 21 ≤ R.locals) (hrest : (rest.map fun v => v.category).sum ≤ 8) (hf : cells ≤ R.cells ∧ slots ≤ R.slots) (hdg : decode cc pc = .ok (.invokestatic idx, 3))
    (kk : ∀ (H1 : Heap) (locs1 : List Loc), SS D A s ws H1 locs1 → W p l e R s m args below meth c H1 locs1 cells slots Q (F0 m (pc + 3) ls (.int (atI N f i) :: rest))) : W p l e R s m args below meth c H locs cells slots Q (F0 m pc ls (.int i :: .ref t :: rest)) := by
  obtain ⟨g1, g2, g4, g5, g6⟩ := lk
  have hts := hE.1.2.2.2.2
  exact q_tabG hE hst (va_runSN hE.1 (c_atT l D cI cJ cZ t N f i hN H.size) ⟨va_cnB 2 hts (goodU g5) rfl rfl rfl (hE.2.2.1.1 _ g1) (hts _ g4) g6 hroom, hts _ g2, trivial⟩ (q_tabP hE hst hT) rfl rfl hsz rfl (lv_room hrest) hdg hf) kk
theorem q_tlen (hE : EV p m c cc nL s args own D cI cJ cZ A) (hst : SS D A s ws H locs) (hT : va_T .int t N (fV f) A s s.heap) (hdg : decode cc pc = .ok (.arraylength, 1)) (kk : W p l e R s m args below meth c H locs cells slots Q (F0 m (pc + 1) ls (.int (nI N) :: rest))) : W p l e R s m args below meth c H locs cells slots Q (F0 m pc ls (.ref t :: rest)) := va_tlen hE.1.1 hE.1.2.1 hT hst.2.2 (v := nI N) rfl hdg kk
end QT

set_option maxHeartbeats 4000000 in
set_option maxRecDepth 100000 in
theorem c_X6_at (l : Launch) (D : va_G) (cI cJ cZ : ClassId) (q : Nat) (N : Nat) (f : Nat → Int32) (p0 : Int32) (hN : N < 2147483648) : CtI l D cI cJ cZ yX6_at cX6_at 2 (some .int) 0 [.ref q, .int p0] [(q, .inl (cI, N, .inl f))] (fun (_ : Unit) => atI N f p0) (fun (_ : Unit) => True) (fun (_ : Unit) => [(q, .inl (cI, N, .inl f))]) := by
  refine q_entI (own := RX6) rfl rfl (Nat.le_of_ble_eq_true rfl) ?_
  intro p e s m args below meth c A ls QQ hQ hE hx hb hr hk hin hA hl hst
  have hl : lv_has ls 2 [(0, .ref q), (1, .int p0)] := hl
  refine lv_iload_n hx hb dX6_at_0 rfl (lv_at hl 1 rfl) ?_
  refine lv_if_lt (tgt := 16) hx hb dX6_at_1 (by decide) (fun c_1 => ?_) (fun c_1 => ?_)
  · skip
    refine lv_iconst (v := 0) hx hb dX6_at_16 (by decide) ?_
    exact q_retI hQ hE hr hk hst () (by rw [atI, if_pos c_1]) (trivial) (rfl) dX6_at_17
  · skip
    refine lv_iload_n hx hb dX6_at_4 rfl (lv_at hl 1 rfl) ?_
    refine lv_aload_n hx hb dX6_at_5 rfl (lv_at hl 0 rfl) ?_
    refine q_len hE hst 0 rfl dX6_at_6 ?_
    refine lv_icmp_ge (tgt := 16) hx hb dX6_at_7 (by decide) (fun c_7 => ?_) (fun c_7 => ?_)
    · skip
      refine lv_iconst (v := 0) hx hb dX6_at_16 (by decide) ?_
      exact q_retI hQ hE hr hk hst () (by rw [atI, if_neg c_1, if_pos c_7]) (trivial) (rfl) dX6_at_17
    · skip
      refine lv_aload_n hx hb dX6_at_10 rfl (lv_at hl 0 rfl) ?_
      refine lv_iload_n hx hb dX6_at_11 rfl (lv_at hl 1 rfl) ?_
      refine q_ald hE hst 0 rfl (vp_of hN c_1 c_7) dX6_at_12 ?_
      refine lv_goto (tgt := 17) hx hb dX6_at_13 (by decide) ?_
      exact q_retI hQ hE hr hk hst () (by rw [atI, if_neg c_1, if_neg c_7]) (trivial) (rfl) dX6_at_17
set_option maxHeartbeats 4000000 in
set_option maxRecDepth 100000 in
theorem c_X6_put (l : Launch) (D : va_G) (cI cJ cZ : ClassId) (q : Nat) (N : Nat) (f : Nat → Int32) (p0 : Int32) (p1 : Int32) (hN : N < 2147483648) : CtV l D cI cJ cZ yX6_put cX6_put 3 none 0 0 0 [.ref q, .int p0, .int p1] [(q, .inl (cI, N, .inl f))] (fun (_ : Unit) => True) (fun (_ : Unit) => [(q, .inl (cI, N, .inl (putI N f p0 p1)))]) := by
  refine q_entV (own := RX6) rfl rfl (Nat.le_of_ble_eq_true rfl) ?_
  intro p e s m args below meth c A ls QQ hQ hE hx hb hr hk hin hA hl hst
  have hl : lv_has ls 3 [(0, .ref q), (1, .int p0), (2, .int p1)] := hl
  refine lv_iload_n hx hb dX6_put_0 rfl (lv_at hl 1 rfl) ?_
  refine lv_if_lt (tgt := 14) hx hb dX6_put_1 (by decide) (fun c_1 => ?_) (fun c_1 => ?_)
  · skip
    exact q_retV hQ hE hr hk hst () (trivial) (by rw [putI, if_pos c_1]) dX6_put_14
  · skip
    refine lv_iload_n hx hb dX6_put_4 rfl (lv_at hl 1 rfl) ?_
    refine lv_aload_n hx hb dX6_put_5 rfl (lv_at hl 0 rfl) ?_
    refine q_len hE hst 0 rfl dX6_put_6 ?_
    refine lv_icmp_ge (tgt := 14) hx hb dX6_put_7 (by decide) (fun c_7 => ?_) (fun c_7 => ?_)
    · skip
      exact q_retV hQ hE hr hk hst () (trivial) (by rw [putI, if_neg c_1, if_pos c_7]) dX6_put_14
    · skip
      refine lv_aload_n hx hb dX6_put_10 rfl (lv_at hl 0 rfl) ?_
      refine lv_iload_n hx hb dX6_put_11 rfl (lv_at hl 1 rfl) ?_
      refine lv_iload_n hx hb dX6_put_12 rfl (lv_at hl 2 rfl) ?_
      refine q_ast hE hst 0 rfl (vp_of hN c_1 c_7) [(q, .inl (cI, N, .inl (upd f p0.toNatClampNeg p1)))] rfl dX6_put_13 (fun H locs hst => ?_)
      exact q_retV hQ hE hr hk hst () (trivial) (by rw [putI, if_neg c_1, if_neg c_7]) dX6_put_14
theorem cpy_all {f g : Nat → Int32} {N : Nat} (hN : N < 2147483648) : ∀ j, j < N → va_cpy f g (0 : Int32).toNatClampNeg (0 : Int32).toNatClampNeg (if nI N < nI N then nI N else nI N).toNatClampNeg j = f j := by
  intro j hj
  have e : (if nI N < nI N then nI N else nI N) = nI N := by by_cases h : nI N < nI N <;> simp [h]
  rw [e, nI_clamp hN]
  have e0 : (0 : Int32).toNatClampNeg = 0 := rfl
  rw [e0, pk_cpy_in (Nat.zero_le j) (by omega)]
  simp
theorem cpy_b {N : Nat} (hN : N < 2147483648) : ¬ (if nI N < nI N then nI N else nI N) < 0 ∧ (0 : Int32).toNatClampNeg + (if nI N < nI N then nI N else nI N).toNatClampNeg ≤ N := by
  have e : (if nI N < nI N then nI N else nI N) = nI N := by by_cases h : nI N < nI N <;> simp [h]
  rw [e, nI_clamp hN]
  exact ⟨nI_pos hN, by rw [show (0 : Int32).toNatClampNeg = 0 from rfl]; omega⟩
set_option maxHeartbeats 4000000 in
set_option maxRecDepth 100000 in
theorem c_X6_copyRow (l : Launch) (D : va_G) (cI cJ cZ : ClassId) (q : Nat) (r : Nat) (N : Nat) (f : Nat → Int32) (g : Nat → Int32) (hN : N < 2147483648) : CtV l D cI cJ cZ yX6_copyRow cX6_copyRow 2 none 1 0 0 [.ref q, .ref r] [(q, .inl (cI, N, .inl f)), (r, .inl (cI, N, .inl g))] (fun (_ : Unit) => True) (fun (_ : Unit) => [(q, .inl (cI, N, .inl f)), (r, .inl (cI, N, .inl f))]) := by
  refine q_entV (own := RX6) rfl rfl (Nat.le_of_ble_eq_true rfl) ?_
  intro p e s m args below meth c A ls QQ hQ hE hx hb hr hk hin hA hl hst
  have hl : lv_has ls 2 [(0, .ref q), (1, .ref r)] := hl
  refine lv_aload_n hx hb dX6_copyRow_0 rfl (lv_at hl 0 rfl) ?_
  refine lv_iconst (v := 0) hx hb dX6_copyRow_1 (by decide) ?_
  refine lv_aload_n hx hb dX6_copyRow_2 rfl (lv_at hl 1 rfl) ?_
  refine lv_iconst (v := 0) hx hb dX6_copyRow_3 (by decide) ?_
  refine lv_aload_n hx hb dX6_copyRow_4 rfl (lv_at hl 0 rfl) ?_
  refine q_len hE hst 0 rfl dX6_copyRow_5 ?_
  refine lv_aload_n hx hb dX6_copyRow_6 rfl (lv_at hl 1 rfl) ?_
  refine q_len hE hst 1 rfl dX6_copyRow_7 ?_
  refine q_min hE wk_3_179 hl.1 (Nat.le_of_ble_eq_true rfl) (Nat.le_of_ble_eq_true rfl) (Nat.le_of_ble_eq_true rfl) (Nat.le_of_ble_eq_true rfl) dX6_copyRow_8 ?_
  refine va_copyi hx hb (hE.1.2.2.1.trans hl.1.symm) hE.1.2.2.2.1 (hE.1.2.2.2.2 _ wk_3_180) (hE.1.2.2.2.2 _ wk_1_109) (hE.1.2.2.2.2 _ wk_1_108) (hE.1.2.2.2.2 _ wk_1_6) hE.2.1 hst.1 hst.2.1 hst.2.2 0 1 0 0 (ty := .int) rfl rfl rfl rfl rfl (by decide) (by decide) (cpy_b hN).1 (cpy_b hN).2 (cpy_b hN).2 (fun _ _ => rfl) (Nat.le_of_ble_eq_true rfl) (Nat.le_of_ble_eq_true rfl) dX6_copyRow_11 (fun H locs g1 g2 g3 => ?_)
  have hst : SS D A s [(q, .inl (cI, N, .inl f)), (r, .inl (cI, N, .inl (va_cpy f g (0 : Int32).toNatClampNeg (0 : Int32).toNatClampNeg (if (nI N) < (nI N) then (nI N) else (nI N)).toNatClampNeg)))] H locs := ⟨g1, g2, g3⟩
  have hst : SS D A s [(q, .inl (cI, N, .inl f)), (r, .inl (cI, N, .inl f))] H locs := q_arr hst 1 rfl (cpy_all hN) _ rfl
  exact q_retV hQ hE hr hk hst () (trivial) (rfl) dX6_copyRow_14
def isJarB (p : Int32) : Bool := decide (p = 0) || decide (p = 1)
def isMonthB (p : Int32) : Bool := !decide (p < 0) && !decide (12 ≤ p)
def ftf (a b c d : Bool) : Int32 := if a = true then -1 else if b = true then -2 else if c = true then -4 else if d = true then -6 else 0
def monLen (p : Int32) : Int32 := atI 13 fMS (p + 1) - atI 13 fMS p
set_option maxHeartbeats 4000000 in
set_option maxRecDepth 100000 in
theorem c_X6_isJar (l : Launch) (D : va_G) (cI cJ cZ : ClassId) (p0 : Int32) : CtI l D cI cJ cZ yX6_isJar cX6_isJar 1 (some .boolean) 0 [.int p0] [] (fun (_ : Unit) => b2i (isJarB p0)) (fun (_ : Unit) => True) (fun (_ : Unit) => []) := by
  refine q_entI (own := RX6) rfl rfl (Nat.le_of_ble_eq_true rfl) ?_
  intro p e s m args below meth c A ls QQ hQ hE hx hb hr hk hin hA hl hst
  have hl : lv_has ls 1 [(0, .int p0)] := hl
  refine lv_iload_n hx hb dX6_isJar_0 rfl (lv_at hl 0 rfl) ?_
  refine lv_if_eq (tgt := 9) hx hb dX6_isJar_1 (by decide) (fun c_1 => ?_) (fun c_1 => ?_)
  · skip
    refine lv_iconst (v := 1) hx hb dX6_isJar_9 (by decide) ?_
    refine lv_goto (tgt := 14) hx hb dX6_isJar_10 (by decide) ?_
    exact q_retZ hQ hE hr hk hst () (rfl) (by simp [isJarB, b2i, c_1]) (trivial) (rfl) dX6_isJar_14
  · skip
    refine lv_iload_n hx hb dX6_isJar_4 rfl (lv_at hl 0 rfl) ?_
    refine lv_iconst (v := 1) hx hb dX6_isJar_5 (by decide) ?_
    refine lv_icmp_ne (tgt := 13) hx hb dX6_isJar_6 (by decide) (fun c_6 => ?_) (fun c_6 => ?_)
    · skip
      refine lv_iconst (v := 0) hx hb dX6_isJar_13 (by decide) ?_
      exact q_retZ hQ hE hr hk hst () (rfl) (by simp [isJarB, b2i, c_1, c_6]) (trivial) (rfl) dX6_isJar_14
    · skip
      refine lv_iconst (v := 1) hx hb dX6_isJar_9 (by decide) ?_
      refine lv_goto (tgt := 14) hx hb dX6_isJar_10 (by decide) ?_
      exact q_retZ hQ hE hr hk hst () (rfl) (by simp [isJarB, b2i, c_1, c_6]) (trivial) (rfl) dX6_isJar_14
set_option maxHeartbeats 4000000 in
set_option maxRecDepth 100000 in
theorem c_X6_isPart (l : Launch) (D : va_G) (cI cJ cZ : ClassId) (p0 : Int32) : CtI l D cI cJ cZ yX6_isPart cX6_isPart 1 (some .boolean) 0 [.int p0] [] (fun (_ : Unit) => b2i (isJarB p0)) (fun (_ : Unit) => True) (fun (_ : Unit) => []) := by
  refine q_entI (own := RX6) rfl rfl (Nat.le_of_ble_eq_true rfl) ?_
  intro p e s m args below meth c A ls QQ hQ hE hx hb hr hk hin hA hl hst
  have hl : lv_has ls 1 [(0, .int p0)] := hl
  refine lv_iload_n hx hb dX6_isPart_0 rfl (lv_at hl 0 rfl) ?_
  refine lv_if_eq (tgt := 9) hx hb dX6_isPart_1 (by decide) (fun c_1 => ?_) (fun c_1 => ?_)
  · skip
    refine lv_iconst (v := 1) hx hb dX6_isPart_9 (by decide) ?_
    refine lv_goto (tgt := 14) hx hb dX6_isPart_10 (by decide) ?_
    exact q_retZ hQ hE hr hk hst () (rfl) (by simp [isJarB, b2i, c_1]) (trivial) (rfl) dX6_isPart_14
  · skip
    refine lv_iload_n hx hb dX6_isPart_4 rfl (lv_at hl 0 rfl) ?_
    refine lv_iconst (v := 1) hx hb dX6_isPart_5 (by decide) ?_
    refine lv_icmp_ne (tgt := 13) hx hb dX6_isPart_6 (by decide) (fun c_6 => ?_) (fun c_6 => ?_)
    · skip
      refine lv_iconst (v := 0) hx hb dX6_isPart_13 (by decide) ?_
      exact q_retZ hQ hE hr hk hst () (rfl) (by simp [isJarB, b2i, c_1, c_6]) (trivial) (rfl) dX6_isPart_14
    · skip
      refine lv_iconst (v := 1) hx hb dX6_isPart_9 (by decide) ?_
      refine lv_goto (tgt := 14) hx hb dX6_isPart_10 (by decide) ?_
      exact q_retZ hQ hE hr hk hst () (rfl) (by simp [isJarB, b2i, c_1, c_6]) (trivial) (rfl) dX6_isPart_14
set_option maxHeartbeats 4000000 in
set_option maxRecDepth 100000 in
theorem c_X6_isMonth (l : Launch) (D : va_G) (cI cJ cZ : ClassId) (p0 : Int32) : CtI l D cI cJ cZ yX6_isMonth cX6_isMonth 1 (some .boolean) 0 [.int p0] [] (fun (_ : Unit) => b2i (isMonthB p0)) (fun (_ : Unit) => True) (fun (_ : Unit) => []) := by
  refine q_entI (own := RX6) rfl rfl (Nat.le_of_ble_eq_true rfl) ?_
  intro p e s m args below meth c A ls QQ hQ hE hx hb hr hk hin hA hl hst
  have hl : lv_has ls 1 [(0, .int p0)] := hl
  refine lv_iload_n hx hb dX6_isMonth_0 rfl (lv_at hl 0 rfl) ?_
  refine lv_if_lt (tgt := 14) hx hb dX6_isMonth_1 (by decide) (fun c_1 => ?_) (fun c_1 => ?_)
  · skip
    refine lv_iconst (v := 0) hx hb dX6_isMonth_14 (by decide) ?_
    exact q_retZ hQ hE hr hk hst () (rfl) (by simp [isMonthB, b2i, c_1]) (trivial) (rfl) dX6_isMonth_15
  · skip
    refine lv_iload_n hx hb dX6_isMonth_4 rfl (lv_at hl 0 rfl) ?_
    refine lv_bipush (v := 12) hx hb dX6_isMonth_5 (by decide) ?_
    refine lv_icmp_ge (tgt := 14) hx hb dX6_isMonth_7 (by decide) (fun c_7 => ?_) (fun c_7 => ?_)
    · skip
      refine lv_iconst (v := 0) hx hb dX6_isMonth_14 (by decide) ?_
      exact q_retZ hQ hE hr hk hst () (rfl) (by simp [isMonthB, b2i, c_1, c_7]) (trivial) (rfl) dX6_isMonth_15
    · skip
      refine lv_iconst (v := 1) hx hb dX6_isMonth_10 (by decide) ?_
      refine lv_goto (tgt := 15) hx hb dX6_isMonth_11 (by decide) ?_
      exact q_retZ hQ hE hr hk hst () (rfl) (by simp [isMonthB, b2i, c_1, c_7]) (trivial) (rfl) dX6_isMonth_15
set_option maxHeartbeats 4000000 in
set_option maxRecDepth 100000 in
theorem c_X6_firstThatFits (l : Launch) (D : va_G) (cI cJ cZ : ClassId) (b1 : Bool) (b2 : Bool) (b3 : Bool) (b4 : Bool) : CtI l D cI cJ cZ yX6_firstThatFits cX6_firstThatFits 4 (some .int) 0 [.int (b2i b1), .int (b2i b2), .int (b2i b3), .int (b2i b4)] [] (fun (_ : Unit) => ftf b1 b2 b3 b4) (fun (_ : Unit) => True) (fun (_ : Unit) => []) := by
  refine q_entI (own := RX6) rfl rfl (Nat.le_of_ble_eq_true rfl) ?_
  intro p e s m args below meth c A ls QQ hQ hE hx hb hr hk hin hA hl hst
  have hl : lv_has ls 4 [(0, .int (b2i b1)), (1, .int (b2i b2)), (2, .int (b2i b3)), (3, .int (b2i b4))] := hl
  refine lv_iload_n hx hb dX6_firstThatFits_0 rfl (lv_at hl 0 rfl) ?_
  refine lv_if_eq (tgt := 6) hx hb dX6_firstThatFits_1 (by decide) (fun c_1 => ?_) (fun c_1 => ?_)
  · skip
    have c_1 := b2i_f c_1
    refine lv_iload_n hx hb dX6_firstThatFits_6 rfl (lv_at hl 1 rfl) ?_
    refine lv_if_eq (tgt := 13) hx hb dX6_firstThatFits_7 (by decide) (fun c_7 => ?_) (fun c_7 => ?_)
    · skip
      have c_7 := b2i_f c_7
      refine lv_iload_n hx hb dX6_firstThatFits_13 rfl (lv_at hl 2 rfl) ?_
      refine lv_if_eq (tgt := 20) hx hb dX6_firstThatFits_14 (by decide) (fun c_14 => ?_) (fun c_14 => ?_)
      · skip
        have c_14 := b2i_f c_14
        refine lv_iload_n hx hb dX6_firstThatFits_20 rfl (lv_at hl 3 rfl) ?_
        refine lv_if_eq (tgt := 29) hx hb dX6_firstThatFits_21 (by decide) (fun c_21 => ?_) (fun c_21 => ?_)
        · skip
          have c_21 := b2i_f c_21
          refine lv_iconst (v := 0) hx hb dX6_firstThatFits_29 (by decide) ?_
          exact q_retI hQ hE hr hk hst () (by simp [ftf, c_1, c_7, c_14, c_21]) (trivial) (rfl) dX6_firstThatFits_30
        · skip
          have c_21 := b2i_t c_21
          refine lv_bipush (v := (-6)) hx hb dX6_firstThatFits_24 (by decide) ?_
          refine lv_goto (tgt := 30) hx hb dX6_firstThatFits_26 (by decide) ?_
          exact q_retI hQ hE hr hk hst () (by simp [ftf, c_1, c_7, c_14, c_21]) (trivial) (rfl) dX6_firstThatFits_30
      · skip
        have c_14 := b2i_t c_14
        refine lv_bipush (v := (-4)) hx hb dX6_firstThatFits_17 (by decide) ?_
        exact q_retI hQ hE hr hk hst () (by simp [ftf, c_1, c_7, c_14]) (trivial) (rfl) dX6_firstThatFits_19
    · skip
      have c_7 := b2i_t c_7
      refine lv_bipush (v := (-2)) hx hb dX6_firstThatFits_10 (by decide) ?_
      exact q_retI hQ hE hr hk hst () (by simp [ftf, c_1, c_7]) (trivial) (rfl) dX6_firstThatFits_12
  · skip
    have c_1 := b2i_t c_1
    refine lv_iconst (v := (-1)) hx hb dX6_firstThatFits_4 (by decide) ?_
    exact q_retI hQ hE hr hk hst () (by simp [ftf, c_1]) (trivial) (rfl) dX6_firstThatFits_5
set_option maxHeartbeats 4000000 in
set_option maxRecDepth 100000 in
theorem c_X6_monthLength (l : Launch) (D : va_G) (cI cJ cZ : ClassId) (p0 : Int32) : CtI l D cI cJ cZ yX6_monthLength cX6_monthLength 1 (some .int) 1 [.int p0] [] (fun (_ : Unit) => monLen p0) (fun (_ : Unit) => True) (fun (_ : Unit) => []) := by
  refine q_entI (own := RX6) rfl rfl (Nat.le_of_ble_eq_true rfl) ?_
  intro p e s m args below meth c A ls QQ hQ hE hx hb hr hk hin hA hl hst
  have hl : lv_has ls 1 [(0, .int p0)] := hl
  refine q_gets hE hst hE.2.2.1.2.1 wk_2_139 dX6_monthLength_0 (fun tb_0 hT_0 => ?_)
  refine lv_iload_n hx hb dX6_monthLength_3 rfl (lv_at hl 0 rfl) ?_
  refine lv_iconst (v := 1) hx hb dX6_monthLength_4 (by decide) ?_
  refine lv_iadd hx hb dX6_monthLength_5 ?_
  refine q_tab hE lk_X6_164 hst hT_0 (by decide) hl.1 ⟨(Nat.le_of_ble_eq_true rfl), (Nat.le_of_ble_eq_true rfl)⟩ (Nat.le_of_ble_eq_true rfl) ⟨(Nat.le_of_ble_eq_true rfl), (Nat.le_of_ble_eq_true rfl)⟩ dX6_monthLength_6 (fun H locs hst => ?_)
  refine q_gets hE hst hE.2.2.1.2.1 wk_2_139 dX6_monthLength_9 (fun tb_9 hT_9 => ?_)
  refine lv_iload_n hx hb dX6_monthLength_12 rfl (lv_at hl 0 rfl) ?_
  refine q_tab hE lk_X6_164 hst hT_9 (by decide) hl.1 ⟨(Nat.le_of_ble_eq_true rfl), (Nat.le_of_ble_eq_true rfl)⟩ (Nat.le_of_ble_eq_true rfl) ⟨(Nat.le_of_ble_eq_true rfl), (Nat.le_of_ble_eq_true rfl)⟩ dX6_monthLength_13 (fun H locs hst => ?_)
  refine lv_isub hx hb dX6_monthLength_16 ?_
  exact q_retI hQ hE hr hk hst () (rfl) (trivial) (rfl) dX6_monthLength_17
def monOfL (day : Int32) : Nat → Nat → Int32
  | 0, k => nI k
  | n + 1, k => if 11 ≤ nI k then nI k else if day < atI 13 fMS (nI (k + 1)) then nI k else monOfL day n (k + 1)
def monOf (day : Int32) : Int32 := monOfL day 11 0
theorem monOf_end {day : Int32} {k n : Nat} (h : 11 ≤ nI k) : monOfL day n k = nI k := by
  cases n with
  | zero => rfl
  | succ n => rw [monOfL, if_pos h]
set_option maxHeartbeats 4000000 in
set_option maxRecDepth 100000 in
theorem c_X6_monthOf (l : Launch) (D : va_G) (cI cJ cZ : ClassId) (p0 : Int32) : CtI l D cI cJ cZ yX6_monthOf cX6_monthOf 2 (some .int) 1 [.int p0] [] (fun (_ : Unit) => monOf p0) (fun (_ : Unit) => True) (fun (_ : Unit) => []) := by
  refine q_entI (own := RX6) rfl rfl (Nat.le_of_ble_eq_true rfl) ?_
  intro p e s m args below meth c A ls QQ hQ hE hx hb hr hk hin hA hl hst
  have hl : lv_has ls 2 [(0, .int p0)] := hl
  have loop_2 : ∀ (n : Nat) (k : Nat), (k ≤ 11) → (monOf p0 = monOfL p0 (11 - k) k) → (11 - k) < n → ∀ (H : Heap) (locs : List Loc) (ls : Array Slot), SS D A s [] H locs → lv_has ls 2 [(0, .int p0), (1, .int (nI k))] → W p l e (rmN 1 0 0) s m args below meth c H locs 0 0 QQ (F0 m 2 ls []) := by
    intro n
    induction n with
    | zero =>
      intro k h1 h2 hn
      exact absurd hn (Nat.not_lt_zero _)
    | succ n ih =>
      intro k h1 h2 hn H locs ls hst hl
      refine lv_iload_n hx hb dX6_monthOf_2 rfl (lv_at hl 1 rfl) ?_
      refine lv_bipush (v := 11) hx hb dX6_monthOf_3 (by decide) ?_
      refine lv_icmp_ge (tgt := 27) hx hb dX6_monthOf_5 (by decide) (fun c_5 => ?_) (fun c_5 => ?_)
      · skip
        refine lv_iload_n hx hb dX6_monthOf_27 rfl (lv_at hl 1 rfl) ?_
        exact q_retI hQ hE hr hk hst () (by rw [h2]; exact (monOf_end c_5).symm) (trivial) (rfl) dX6_monthOf_28
      · skip
        have hk11 : k < 11 := Nat.lt_of_not_le (fun z => c_5 (nI_le z (by omega)))
        refine lv_iload_n hx hb dX6_monthOf_8 rfl (lv_at hl 0 rfl) ?_
        refine q_gets hE hst hE.2.2.1.2.1 wk_2_139 dX6_monthOf_9 (fun tb_9 hT_9 => ?_)
        refine lv_iload_n hx hb dX6_monthOf_12 rfl (lv_at hl 1 rfl) ?_
        refine lv_iconst (v := 1) hx hb dX6_monthOf_13 (by decide) ?_
        refine lv_iadd hx hb dX6_monthOf_14 ?_
        refine q_top (x' := nI (k + 1)) (nI_1 k) ?_
        refine q_tab hE lk_X6_164 hst hT_9 (by decide) hl.1 ⟨(Nat.le_of_ble_eq_true rfl), (Nat.le_of_ble_eq_true rfl)⟩ (Nat.le_of_ble_eq_true rfl) ⟨(Nat.le_of_ble_eq_true rfl), (Nat.le_of_ble_eq_true rfl)⟩ dX6_monthOf_15 (fun H locs hst => ?_)
        refine lv_icmp_lt (tgt := 27) hx hb dX6_monthOf_18 (by decide) (fun c_18 => ?_) (fun c_18 => ?_)
        · skip
          refine lv_iload_n hx hb dX6_monthOf_27 rfl (lv_at hl 1 rfl) ?_
          exact q_retI hQ hE hr hk hst () (by rw [h2, show 11 - k = (11 - (k + 1)) + 1 by omega, monOfL, if_neg c_5, if_pos c_18]) (trivial) (rfl) dX6_monthOf_28
        · skip
          refine lv_iinc (v := nI (k + 1)) (lv' := [(1, .int (nI (k + 1))), (0, .int p0)]) hx hb dX6_monthOf_21 hl (k := 1) rfl (nI_next _) (by decide) rfl (fun ls hl => ?_)
          refine lv_goto (tgt := 2) hx hb dX6_monthOf_24 (by decide) ?_
          exact ih (k + 1) (by omega) (by rw [h2, show 11 - k = (11 - (k + 1)) + 1 by omega, monOfL, if_neg c_5, if_neg c_18]) (by omega) _ _ _ (hst) (lv_sub hl [1, 0] rfl)
  refine lv_iconst (v := 0) hx hb dX6_monthOf_0 (by decide) ?_
  refine lv_istore_n (lv' := [(1, .int 0), (0, .int p0)]) hx hb dX6_monthOf_1 rfl hl (by decide) rfl (fun ls hl => ?_)
  exact loop_2 (12) 0 (by decide) (rfl) (by decide) _ _ _ (hst) (lv_sub hl [1, 0] rfl)
end
section
/-! fractions -/
def gcdL : Nat → Int64 → Int64 → Int64
  | 0, g, _ => g
  | n + 1, g, d => if d = 0 then g else gcdL n d (g - g / d * d)
theorem gcdL_0 (n : Nat) (g : Int64) : gcdL n g 0 = g := by
  cases n with
  | zero => rfl
  | succ n => rw [gcdL, if_pos rfl]
def absL (x : Int64) : Int64 := if 0 < x then x else -x
def divi (a b : Int64) : Int64 := gcdL 100 (absL a) (absL b)
def becA (a b : Int64) : Int64 := if b = 0 then 0 else if divi a b = 0 then 0 else (if 0 ≤ b then 1 else -1) * (a / divi a b)
def becB (a b : Int64) : Int64 := if b = 0 then 1 else if divi a b = 0 then 1 else (if 0 ≤ b then 1 else -1) * (b / divi a b)
set_option maxHeartbeats 4000000 in
set_option maxRecDepth 100000 in
theorem c_X3_commonDivisor (l : Launch) (D : va_G) (cI cJ cZ : ClassId) (g0 : Int64) (d0 : Int64) : CtL l D cI cJ cZ yX3_commonDivisor cX3_commonDivisor 11 (some .long) 0 [.long g0, .long d0] [] (fun (_ : Unit) => gcdL 100 g0 d0) (fun (_ : Unit) => True) (fun (_ : Unit) => []) := by
  refine q_entL (own := RX3) rfl rfl (Nat.le_of_ble_eq_true rfl) ?_
  intro p e s m args below meth c A ls QQ hQ hE hx hb hr hk hin hA hl hst
  have hl : lv_has ls 11 [(0, .long g0), (2, .long d0)] := hl
  have loop_9 : ∀ (n : Nat) (k : Nat) (g : Int64) (d : Int64), (k ≤ 100) → (gcdL 100 g0 d0 = gcdL (100 - k) g d) → (100 - k) < n → ∀ (H : Heap) (locs : List Loc) (ls : Array Slot), SS D A s [] H locs → lv_has ls 11 [(8, .int (nI k)), (4, .long g), (6, .long d)] → W p l e (rmN 0 0 0) s m args below meth c H locs 0 0 QQ (F0 m 9 ls []) := by
    intro n
    induction n with
    | zero =>
      intro k g d h1 h2 hn
      exact absurd hn (Nat.not_lt_zero _)
    | succ n ih =>
      intro k g d h1 h2 hn H locs ls hst hl
      refine lv_iload hx hb dX3_commonDivisor_9 (lv_at hl 0 rfl) ?_
      refine lv_bipush (v := 100) hx hb dX3_commonDivisor_11 (by decide) ?_
      refine lv_icmp_ge (tgt := 44) hx hb dX3_commonDivisor_13 (by decide) (fun c_13 => ?_) (fun c_13 => ?_)
      · skip
        have hk1 : 100 ≤ k := Nat.le_of_not_lt (fun z => nI_ge z (by decide) c_13)
        refine lv_lload hx hb dX3_commonDivisor_44 (lv_at hl 1 rfl) ?_
        exact q_retL hQ hE hr hk hst () (by rw [h2, show 100 - k = 0 by omega, gcdL]) (trivial) (rfl) dX3_commonDivisor_46
      · skip
        have hk1 : k < 100 := Nat.lt_of_not_le (fun z => c_13 (nI_le z (by omega)))
        refine lv_lload hx hb dX3_commonDivisor_16 (lv_at hl 2 rfl) ?_
        refine lv_lconst (v := 0) hx hb dX3_commonDivisor_18 (by decide) ?_
        refine W.lcmp hx hb dX3_commonDivisor_19 ?_
        refine lv_if_eq (tgt := 44) hx hb dX3_commonDivisor_20 (by decide) (fun c_20 => ?_) (fun c_20 => ?_)
        · skip
          have c_20 := lc_eq.mp c_20
          refine lv_lload hx hb dX3_commonDivisor_44 (lv_at hl 1 rfl) ?_
          exact q_retL hQ hE hr hk hst () (by rw [h2, c_20, gcdL_0]) (trivial) (rfl) dX3_commonDivisor_46
        · skip
          have c_20 := (not_congr lc_eq).mp c_20
          refine lv_lload hx hb dX3_commonDivisor_23 (lv_at hl 1 rfl) ?_
          refine lv_lload hx hb dX3_commonDivisor_25 (lv_at hl 2 rfl) ?_
          refine lv_lrem hx hb dX3_commonDivisor_27 (c_20) ?_
          refine lv_lstore (lv' := [(9, .long (g - g / d * d)), (8, .int (nI k)), (4, .long g), (6, .long d)]) hx hb dX3_commonDivisor_28 hl (by decide) rfl (fun ls hl => ?_)
          refine lv_lload hx hb dX3_commonDivisor_30 (lv_at hl 3 rfl) ?_
          refine lv_lstore (lv' := [(4, .long d), (9, .long (g - g / d * d)), (8, .int (nI k)), (6, .long d)]) hx hb dX3_commonDivisor_32 hl (by decide) rfl (fun ls hl => ?_)
          refine lv_lload hx hb dX3_commonDivisor_34 (lv_at hl 1 rfl) ?_
          refine lv_lstore (lv' := [(6, .long (g - g / d * d)), (4, .long d), (9, .long (g - g / d * d)), (8, .int (nI k))]) hx hb dX3_commonDivisor_36 hl (by decide) rfl (fun ls hl => ?_)
          refine lv_iinc (v := nI (k + 1)) (lv' := [(8, .int (nI (k + 1))), (6, .long (g - g / d * d)), (4, .long d), (9, .long (g - g / d * d))]) hx hb dX3_commonDivisor_38 hl (k := 3) rfl (nI_next _) (by decide) rfl (fun ls hl => ?_)
          refine lv_goto (tgt := 9) hx hb dX3_commonDivisor_41 (by decide) ?_
          exact ih (k + 1) d (g - g / d * d) (by omega) (by rw [h2, show 100 - k = (100 - (k + 1)) + 1 by omega, gcdL, if_neg c_20]) (by omega) _ _ _ (hst) (lv_sub hl [0, 2, 1] rfl)
  refine lv_lload_n hx hb dX3_commonDivisor_0 rfl (lv_at hl 0 rfl) ?_
  refine lv_lstore (lv' := [(4, .long g0), (0, .long g0), (2, .long d0)]) hx hb dX3_commonDivisor_1 hl (by decide) rfl (fun ls hl => ?_)
  refine lv_lload_n hx hb dX3_commonDivisor_3 rfl (lv_at hl 2 rfl) ?_
  refine lv_lstore (lv' := [(6, .long d0), (4, .long g0), (0, .long g0), (2, .long d0)]) hx hb dX3_commonDivisor_4 hl (by decide) rfl (fun ls hl => ?_)
  refine lv_iconst (v := 0) hx hb dX3_commonDivisor_6 (by decide) ?_
  refine lv_istore (lv' := [(8, .int 0), (6, .long d0), (4, .long g0), (0, .long g0), (2, .long d0)]) hx hb dX3_commonDivisor_7 hl (by decide) rfl (fun ls hl => ?_)
  exact loop_9 (101) 0 g0 d0 (by decide) (rfl) (by decide) _ _ _ (hst) (lv_sub hl [0, 2, 1] rfl)
set_option maxHeartbeats 4000000 in
set_option maxRecDepth 100000 in
theorem c_X3_become (l : Launch) (D : va_G) (cI cJ cZ : ClassId) (r : Nat) (ra : Int64) (rb : Int64) (a0 : Int64) (b0 : Int64) : CtV l D cI cJ cZ yX3_become cX3_become 9 none 1 0 0 [.ref r, .long a0, .long b0] [(r, .inr (3, [.long ra, .long rb]))] (fun (_ : Unit) => True) (fun (_ : Unit) => [(r, .inr (3, [.long (becA a0 b0), .long (becB a0 b0)]))]) := by
  refine q_entV (own := RX3) rfl rfl (Nat.le_of_ble_eq_true rfl) ?_
  intro p e s m args below meth c A ls QQ hQ hE hx hb hr hk hin hA hl hst
  have hl : lv_has ls 9 [(0, .ref r), (1, .long a0), (3, .long b0)] := hl
  refine lv_lload_n hx hb dX3_become_0 rfl (lv_at hl 1 rfl) ?_
  refine q_abs hE wk_2_144 hl.1 (Nat.le_of_ble_eq_true rfl) (Nat.le_of_ble_eq_true rfl) (Nat.le_of_ble_eq_true rfl) (Nat.le_of_ble_eq_true rfl) dX3_become_1 ?_
  refine lv_lload_n hx hb dX3_become_4 rfl (lv_at hl 2 rfl) ?_
  refine q_abs hE wk_2_144 hl.1 (Nat.le_of_ble_eq_true rfl) (Nat.le_of_ble_eq_true rfl) (Nat.le_of_ble_eq_true rfl) (Nat.le_of_ble_eq_true rfl) dX3_become_5 ?_
  refine q_goL (q_rS hE lk_X3_22 (c_X3_commonDivisor l D cI cJ cZ (if 0 < a0 then a0 else -a0) (if 0 < b0 then b0 else -b0) s.heap.size) hst [] rfl rfl rfl hl.1 ⟨(Nat.le_of_ble_eq_true rfl), (Nat.le_of_ble_eq_true rfl)⟩ (rest := []) rfl (Nat.le_of_ble_eq_true rfl) dX3_become_8 ⟨(Nat.le_of_ble_eq_true rfl), (Nat.le_of_ble_eq_true rfl)⟩) hE hst [] rfl (fun _ => rfl) (fun (_ : Unit) => [(r, .inr (3, [.long ra, .long rb]))]) (fun _ => rfl) (fun _ H locs hF hst => ?_)
  refine lv_lstore (lv' := [(5, .long (divi a0 b0)), (0, .ref r), (1, .long a0), (3, .long b0)]) hx hb dX3_become_11 hl (by decide) rfl (fun ls hl => ?_)
  refine lv_lload_n hx hb dX3_become_13 rfl (lv_at hl 3 rfl) ?_
  refine lv_lconst (v := 0) hx hb dX3_become_14 (by decide) ?_
  refine W.lcmp hx hb dX3_become_15 ?_
  refine lv_if_eq (tgt := 26) hx hb dX3_become_16 (by decide) (fun c_16 => ?_) (fun c_16 => ?_)
  · skip
    have c_16 := lc_eq.mp c_16
    refine lv_aload_n hx hb dX3_become_26 rfl (lv_at hl 1 rfl) ?_
    refine lv_lconst (v := 0) hx hb dX3_become_27 (by decide) ?_
    refine pf_X3_7 hE hst 0 rfl (rfl) (rfl) (Nat.le_of_ble_eq_true rfl) [(r, .inr (3, [.long 0, .long rb]))] rfl dX3_become_28 (fun H locs hst => ?_)
    refine lv_aload_n hx hb dX3_become_31 rfl (lv_at hl 1 rfl) ?_
    refine lv_lconst (v := 1) hx hb dX3_become_32 (by decide) ?_
    refine pf_X3_13 hE hst 0 rfl (rfl) (rfl) (Nat.le_of_ble_eq_true rfl) [(r, .inr (3, [.long 0, .long 1]))] rfl dX3_become_33 (fun H locs hst => ?_)
    exact q_retV hQ hE hr hk hst () (trivial) (by rw [becA, becB, if_pos c_16, if_pos c_16]) dX3_become_36
  · skip
    have c_16 := (not_congr lc_eq).mp c_16
    refine lv_lload hx hb dX3_become_19 (lv_at hl 0 rfl) ?_
    refine lv_lconst (v := 0) hx hb dX3_become_21 (by decide) ?_
    refine W.lcmp hx hb dX3_become_22 ?_
    refine lv_if_ne (tgt := 37) hx hb dX3_become_23 (by decide) (fun c_23 => ?_) (fun c_23 => ?_)
    · skip
      have c_23 := (not_congr lc_eq).mp c_23
      refine lv_lload_n hx hb dX3_become_37 rfl (lv_at hl 3 rfl) ?_
      refine lv_lconst (v := 0) hx hb dX3_become_38 (by decide) ?_
      refine W.lcmp hx hb dX3_become_39 ?_
      refine lv_if_ge (tgt := 49) hx hb dX3_become_40 (by decide) (fun c_40 => ?_) (fun c_40 => ?_)
      · skip
        have c_40 := lc_ge.mp c_40
        refine lv_lconst (v := 1) hx hb dX3_become_49 (by decide) ?_
        refine q_topL (x' := if 0 ≤ b0 then 1 else -1) (by rw [if_pos c_40]) ?_
        refine lv_lstore (lv' := [(7, .long (if 0 ≤ b0 then 1 else -1)), (5, .long (divi a0 b0)), (0, .ref r), (1, .long a0), (3, .long b0)]) hx hb dX3_become_50 hl (by decide) rfl (fun ls hl => ?_)
        refine lv_aload_n hx hb dX3_become_52 rfl (lv_at hl 2 rfl) ?_
        refine lv_lload hx hb dX3_become_53 (lv_at hl 0 rfl) ?_
        refine lv_lload_n hx hb dX3_become_55 rfl (lv_at hl 3 rfl) ?_
        refine lv_lload hx hb dX3_become_56 (lv_at hl 1 rfl) ?_
        refine lv_ldiv hx hb dX3_become_58 (c_23) ?_
        refine lv_lmul hx hb dX3_become_59 ?_
        refine pf_X3_7 hE hst 0 rfl (rfl) (rfl) (Nat.le_of_ble_eq_true rfl) [(r, .inr (3, [.long ((if 0 ≤ b0 then 1 else -1) * (a0 / (divi a0 b0))), .long rb]))] rfl dX3_become_60 (fun H locs hst => ?_)
        refine lv_aload_n hx hb dX3_become_63 rfl (lv_at hl 2 rfl) ?_
        refine lv_lload hx hb dX3_become_64 (lv_at hl 0 rfl) ?_
        refine lv_lload_n hx hb dX3_become_66 rfl (lv_at hl 4 rfl) ?_
        refine lv_lload hx hb dX3_become_67 (lv_at hl 1 rfl) ?_
        refine lv_ldiv hx hb dX3_become_69 (c_23) ?_
        refine lv_lmul hx hb dX3_become_70 ?_
        refine pf_X3_13 hE hst 0 rfl (rfl) (rfl) (Nat.le_of_ble_eq_true rfl) [(r, .inr (3, [.long ((if 0 ≤ b0 then 1 else -1) * (a0 / (divi a0 b0))), .long ((if 0 ≤ b0 then 1 else -1) * (b0 / (divi a0 b0)))]))] rfl dX3_become_71 (fun H locs hst => ?_)
        exact q_retV hQ hE hr hk hst () (trivial) (by rw [becA, becB, if_neg c_16, if_neg c_16, if_neg c_23, if_neg c_23]) dX3_become_74
      · skip
        have c_40 := (not_congr lc_ge).mp c_40
        refine q_ldc2 hE wk_2_150 dX3_become_43 ?_
        refine lv_goto (tgt := 50) hx hb dX3_become_46 (by decide) ?_
        refine q_topL (x' := if 0 ≤ b0 then 1 else -1) (by rw [if_neg c_40]) ?_
        refine lv_lstore (lv' := [(7, .long (if 0 ≤ b0 then 1 else -1)), (5, .long (divi a0 b0)), (0, .ref r), (1, .long a0), (3, .long b0)]) hx hb dX3_become_50 hl (by decide) rfl (fun ls hl => ?_)
        refine lv_aload_n hx hb dX3_become_52 rfl (lv_at hl 2 rfl) ?_
        refine lv_lload hx hb dX3_become_53 (lv_at hl 0 rfl) ?_
        refine lv_lload_n hx hb dX3_become_55 rfl (lv_at hl 3 rfl) ?_
        refine lv_lload hx hb dX3_become_56 (lv_at hl 1 rfl) ?_
        refine lv_ldiv hx hb dX3_become_58 (c_23) ?_
        refine lv_lmul hx hb dX3_become_59 ?_
        refine pf_X3_7 hE hst 0 rfl (rfl) (rfl) (Nat.le_of_ble_eq_true rfl) [(r, .inr (3, [.long ((if 0 ≤ b0 then 1 else -1) * (a0 / (divi a0 b0))), .long rb]))] rfl dX3_become_60 (fun H locs hst => ?_)
        refine lv_aload_n hx hb dX3_become_63 rfl (lv_at hl 2 rfl) ?_
        refine lv_lload hx hb dX3_become_64 (lv_at hl 0 rfl) ?_
        refine lv_lload_n hx hb dX3_become_66 rfl (lv_at hl 4 rfl) ?_
        refine lv_lload hx hb dX3_become_67 (lv_at hl 1 rfl) ?_
        refine lv_ldiv hx hb dX3_become_69 (c_23) ?_
        refine lv_lmul hx hb dX3_become_70 ?_
        refine pf_X3_13 hE hst 0 rfl (rfl) (rfl) (Nat.le_of_ble_eq_true rfl) [(r, .inr (3, [.long ((if 0 ≤ b0 then 1 else -1) * (a0 / (divi a0 b0))), .long ((if 0 ≤ b0 then 1 else -1) * (b0 / (divi a0 b0)))]))] rfl dX3_become_71 (fun H locs hst => ?_)
        exact q_retV hQ hE hr hk hst () (trivial) (by rw [becA, becB, if_neg c_16, if_neg c_16, if_neg c_23, if_neg c_23]) dX3_become_74
    · skip
      have c_23 := lc_eq.mp c_23
      refine lv_aload_n hx hb dX3_become_26 rfl (lv_at hl 1 rfl) ?_
      refine lv_lconst (v := 0) hx hb dX3_become_27 (by decide) ?_
      refine pf_X3_7 hE hst 0 rfl (rfl) (rfl) (Nat.le_of_ble_eq_true rfl) [(r, .inr (3, [.long 0, .long rb]))] rfl dX3_become_28 (fun H locs hst => ?_)
      refine lv_aload_n hx hb dX3_become_31 rfl (lv_at hl 1 rfl) ?_
      refine lv_lconst (v := 1) hx hb dX3_become_32 (by decide) ?_
      refine pf_X3_13 hE hst 0 rfl (rfl) (rfl) (Nat.le_of_ble_eq_true rfl) [(r, .inr (3, [.long 0, .long 1]))] rfl dX3_become_33 (fun H locs hst => ?_)
      exact q_retV hQ hE hr hk hst () (trivial) (by rw [becA, becB, if_neg c_16, if_neg c_16, if_pos c_23, if_pos c_23]) dX3_become_36
set_option maxHeartbeats 4000000 in
set_option maxRecDepth 100000 in
theorem c_X3_partAt (l : Launch) (D : va_G) (cI cJ cZ : ClassId) (r : Nat) (ra : Int64) (rb : Int64) (p0 : Int32) : CtL l D cI cJ cZ yX3_partAt cX3_partAt 2 (some .long) 0 [.ref r, .int p0] [(r, .inr (3, [.long ra, .long rb]))] (fun (_ : Unit) => if p0 = 0 then ra else rb) (fun (_ : Unit) => True) (fun (_ : Unit) => [(r, .inr (3, [.long ra, .long rb]))]) := by
  refine q_entL (own := RX3) rfl rfl (Nat.le_of_ble_eq_true rfl) ?_
  intro p e s m args below meth c A ls QQ hQ hE hx hb hr hk hin hA hl hst
  have hl : lv_has ls 2 [(0, .ref r), (1, .int p0)] := hl
  refine lv_iload_n hx hb dX3_partAt_0 rfl (lv_at hl 1 rfl) ?_
  refine lv_if_ne (tgt := 11) hx hb dX3_partAt_1 (by decide) (fun c_1 => ?_) (fun c_1 => ?_)
  · skip
    refine lv_aload_n hx hb dX3_partAt_11 rfl (lv_at hl 0 rfl) ?_
    refine gf_X3_13 hE hst 0 rfl rfl dX3_partAt_12 ?_
    exact q_retL hQ hE hr hk hst () (by rw [if_neg c_1]) (trivial) (rfl) dX3_partAt_15
  · skip
    refine lv_aload_n hx hb dX3_partAt_4 rfl (lv_at hl 0 rfl) ?_
    refine gf_X3_7 hE hst 0 rfl rfl dX3_partAt_5 ?_
    refine lv_goto (tgt := 15) hx hb dX3_partAt_8 (by decide) ?_
    exact q_retL hQ hE hr hk hst () (by rw [if_pos c_1]) (trivial) (rfl) dX3_partAt_15
set_option maxHeartbeats 4000000 in
set_option maxRecDepth 100000 in
theorem c_X3_isWithin (l : Launch) (D : va_G) (cI cJ cZ : ClassId) (r : Nat) (ra : Int64) (rb : Int64) (p0 : Int64) : CtI l D cI cJ cZ yX3_isWithin cX3_isWithin 3 (some .boolean) 1 [.ref r, .long p0] [(r, .inr (3, [.long ra, .long rb]))] (fun (_ : Unit) => b2i (decide (absL ra ≤ p0 * rb))) (fun (_ : Unit) => True) (fun (_ : Unit) => [(r, .inr (3, [.long ra, .long rb]))]) := by
  refine q_entI (own := RX3) rfl rfl (Nat.le_of_ble_eq_true rfl) ?_
  intro p e s m args below meth c A ls QQ hQ hE hx hb hr hk hin hA hl hst
  have hl : lv_has ls 3 [(0, .ref r), (1, .long p0)] := hl
  refine lv_aload_n hx hb dX3_isWithin_0 rfl (lv_at hl 0 rfl) ?_
  refine gf_X3_7 hE hst 0 rfl rfl dX3_isWithin_1 ?_
  refine q_abs hE wk_2_144 hl.1 (Nat.le_of_ble_eq_true rfl) (Nat.le_of_ble_eq_true rfl) (Nat.le_of_ble_eq_true rfl) (Nat.le_of_ble_eq_true rfl) dX3_isWithin_4 ?_
  refine lv_lload_n hx hb dX3_isWithin_7 rfl (lv_at hl 1 rfl) ?_
  refine lv_aload_n hx hb dX3_isWithin_8 rfl (lv_at hl 0 rfl) ?_
  refine gf_X3_13 hE hst 0 rfl rfl dX3_isWithin_9 ?_
  refine lv_lmul hx hb dX3_isWithin_12 ?_
  refine W.lcmp hx hb dX3_isWithin_13 ?_
  refine lv_if_gt (tgt := 21) hx hb dX3_isWithin_14 (by decide) (fun c_14 => ?_) (fun c_14 => ?_)
  · skip
    have c_14 := lc_gt.mp c_14
    refine lv_iconst (v := 0) hx hb dX3_isWithin_21 (by decide) ?_
    exact q_retZ hQ hE hr hk hst () (rfl) (by unfold absL; rw [decide_eq_false (Int64.not_le.mpr c_14)]; rfl) (trivial) (rfl) dX3_isWithin_22
  · skip
    have c_14 := (not_congr lc_gt).mp c_14
    refine lv_iconst (v := 1) hx hb dX3_isWithin_17 (by decide) ?_
    refine lv_goto (tgt := 22) hx hb dX3_isWithin_18 (by decide) ?_
    exact q_retZ hQ hE hr hk hst () (rfl) (by unfold absL; rw [decide_eq_true (Int64.not_lt.mp c_14)]; rfl) (trivial) (rfl) dX3_isWithin_22
/-! sums over two sides -/
def gapB (cm om : Int32) : Bool := !decide (cm = 0) && !decide (om = 0)
def gapN (cs os : Int64) (cm om : Int32) : Int64 := cs * om.toInt64 - os * cm.toInt64
def gapD (cm om : Int32) : Int64 := cm.toInt64 * om.toInt64
set_option maxHeartbeats 4000000 in
set_option maxRecDepth 100000 in
theorem c_X4_clear (l : Launch) (D : va_G) (cI cJ cZ : ClassId) (h : Nat) (cs : Int64) (os : Int64) (cm : Int32) (om : Int32) : CtV l D cI cJ cZ yX4_clear cX4_clear 1 none 0 0 0 [.ref h] [(h, .inr (4, [.long cs, .long os, .int cm, .int om]))] (fun (_ : Unit) => True) (fun (_ : Unit) => [(h, .inr (4, [.long 0, .long 0, .int 0, .int 0]))]) := by
  refine q_entV (own := RX4) rfl rfl (Nat.le_of_ble_eq_true rfl) ?_
  intro p e s m args below meth c A ls QQ hQ hE hx hb hr hk hin hA hl hst
  have hl : lv_has ls 1 [(0, .ref h)] := hl
  refine lv_aload_n hx hb dX4_clear_0 rfl (lv_at hl 0 rfl) ?_
  refine lv_lconst (v := 0) hx hb dX4_clear_1 (by decide) ?_
  refine pf_X4_7 hE hst 0 rfl (rfl) (rfl) (Nat.le_of_ble_eq_true rfl) [(h, .inr (4, [.long 0, .long os, .int cm, .int om]))] rfl dX4_clear_2 (fun H locs hst => ?_)
  refine lv_aload_n hx hb dX4_clear_5 rfl (lv_at hl 0 rfl) ?_
  refine lv_lconst (v := 0) hx hb dX4_clear_6 (by decide) ?_
  refine pf_X4_13 hE hst 0 rfl (rfl) (rfl) (Nat.le_of_ble_eq_true rfl) [(h, .inr (4, [.long 0, .long 0, .int cm, .int om]))] rfl dX4_clear_7 (fun H locs hst => ?_)
  refine lv_aload_n hx hb dX4_clear_10 rfl (lv_at hl 0 rfl) ?_
  refine lv_iconst (v := 0) hx hb dX4_clear_11 (by decide) ?_
  refine pf_X4_16 hE hst 0 rfl (rfl) (rfl) (Nat.le_of_ble_eq_true rfl) [(h, .inr (4, [.long 0, .long 0, .int 0, .int om]))] rfl dX4_clear_12 (fun H locs hst => ?_)
  refine lv_aload_n hx hb dX4_clear_15 rfl (lv_at hl 0 rfl) ?_
  refine lv_iconst (v := 0) hx hb dX4_clear_16 (by decide) ?_
  refine pf_X4_20 hE hst 0 rfl (rfl) (rfl) (Nat.le_of_ble_eq_true rfl) [(h, .inr (4, [.long 0, .long 0, .int 0, .int 0]))] rfl dX4_clear_17 (fun H locs hst => ?_)
  exact q_retV hQ hE hr hk hst () (trivial) (rfl) dX4_clear_20
set_option maxHeartbeats 4000000 in
set_option maxRecDepth 100000 in
theorem c_X4_enter (l : Launch) (D : va_G) (cI cJ cZ : ClassId) (h : Nat) (cs : Int64) (os : Int64) (v0 : Int64) (cm : Int32) (om : Int32) (b0 : Bool) : CtV l D cI cJ cZ yX4_enter cX4_enter 4 none 0 0 0 [.ref h, .int (b2i b0), .long v0] [(h, .inr (4, [.long cs, .long os, .int cm, .int om]))] (fun (_ : Unit) => True) (fun (_ : Unit) => [(h, .inr (4, [.long (if b0 = true then cs + v0 else cs), .long (if b0 = true then os else os + v0), .int (if b0 = true then cm + 1 else cm), .int (if b0 = true then om else om + 1)]))]) := by
  refine q_entV (own := RX4) rfl rfl (Nat.le_of_ble_eq_true rfl) ?_
  intro p e s m args below meth c A ls QQ hQ hE hx hb hr hk hin hA hl hst
  have hl : lv_has ls 4 [(0, .ref h), (1, .int (b2i b0)), (2, .long v0)] := hl
  refine lv_iload_n hx hb dX4_enter_0 rfl (lv_at hl 1 rfl) ?_
  refine lv_if_eq (tgt := 27) hx hb dX4_enter_1 (by decide) (fun c_1 => ?_) (fun c_1 => ?_)
  · skip
    have c_1 := b2i_f c_1
    refine lv_aload_n hx hb dX4_enter_27 rfl (lv_at hl 0 rfl) ?_
    refine lv_dup hx hb dX4_enter_28 rfl ?_
    refine gf_X4_13 hE hst 0 rfl rfl dX4_enter_29 ?_
    refine lv_lload_n hx hb dX4_enter_32 rfl (lv_at hl 2 rfl) ?_
    refine lv_ladd hx hb dX4_enter_33 ?_
    refine pf_X4_13 hE hst 0 rfl (rfl) (rfl) (Nat.le_of_ble_eq_true rfl) [(h, .inr (4, [.long cs, .long (os + v0), .int cm, .int om]))] rfl dX4_enter_34 (fun H locs hst => ?_)
    refine lv_aload_n hx hb dX4_enter_37 rfl (lv_at hl 0 rfl) ?_
    refine lv_dup hx hb dX4_enter_38 rfl ?_
    refine gf_X4_20 hE hst 0 rfl rfl dX4_enter_39 ?_
    refine lv_iconst (v := 1) hx hb dX4_enter_42 (by decide) ?_
    refine lv_iadd hx hb dX4_enter_43 ?_
    refine pf_X4_20 hE hst 0 rfl (rfl) (rfl) (Nat.le_of_ble_eq_true rfl) [(h, .inr (4, [.long cs, .long (os + v0), .int cm, .int (om + 1)]))] rfl dX4_enter_44 (fun H locs hst => ?_)
    exact q_retV hQ hE hr hk hst () (trivial) (by simp [c_1]) dX4_enter_47
  · skip
    have c_1 := b2i_t c_1
    refine lv_aload_n hx hb dX4_enter_4 rfl (lv_at hl 0 rfl) ?_
    refine lv_dup hx hb dX4_enter_5 rfl ?_
    refine gf_X4_7 hE hst 0 rfl rfl dX4_enter_6 ?_
    refine lv_lload_n hx hb dX4_enter_9 rfl (lv_at hl 2 rfl) ?_
    refine lv_ladd hx hb dX4_enter_10 ?_
    refine pf_X4_7 hE hst 0 rfl (rfl) (rfl) (Nat.le_of_ble_eq_true rfl) [(h, .inr (4, [.long (cs + v0), .long os, .int cm, .int om]))] rfl dX4_enter_11 (fun H locs hst => ?_)
    refine lv_aload_n hx hb dX4_enter_14 rfl (lv_at hl 0 rfl) ?_
    refine lv_dup hx hb dX4_enter_15 rfl ?_
    refine gf_X4_16 hE hst 0 rfl rfl dX4_enter_16 ?_
    refine lv_iconst (v := 1) hx hb dX4_enter_19 (by decide) ?_
    refine lv_iadd hx hb dX4_enter_20 ?_
    refine pf_X4_16 hE hst 0 rfl (rfl) (rfl) (Nat.le_of_ble_eq_true rfl) [(h, .inr (4, [.long (cs + v0), .long os, .int (cm + 1), .int om]))] rfl dX4_enter_21 (fun H locs hst => ?_)
    refine lv_goto (tgt := 47) hx hb dX4_enter_24 (by decide) ?_
    exact q_retV hQ hE hr hk hst () (trivial) (by simp [c_1]) dX4_enter_47
set_option maxHeartbeats 4000000 in
set_option maxRecDepth 100000 in
theorem c_X4_findGap (l : Launch) (D : va_G) (cI cJ cZ : ClassId) (h : Nat) (r : Nat) (cs : Int64) (os : Int64) (ra : Int64) (rb : Int64) (cm : Int32) (om : Int32) : CtI l D cI cJ cZ yX4_findGap cX4_findGap 2 (some .boolean) 2 [.ref h, .ref r] [(h, .inr (4, [.long cs, .long os, .int cm, .int om])), (r, .inr (3, [.long ra, .long rb]))] (fun (_ : Unit) => b2i (gapB cm om)) (fun (_ : Unit) => True) (fun (_ : Unit) => [(h, .inr (4, [.long cs, .long os, .int cm, .int om])), (r, .inr (3, [.long (if gapB cm om = true then becA (gapN cs os cm om) (gapD cm om) else ra), .long (if gapB cm om = true then becB (gapN cs os cm om) (gapD cm om) else rb)]))]) := by
  refine q_entI (own := RX4) rfl rfl (Nat.le_of_ble_eq_true rfl) ?_
  intro p e s m args below meth c A ls QQ hQ hE hx hb hr hk hin hA hl hst
  have hl : lv_has ls 2 [(0, .ref h), (1, .ref r)] := hl
  refine lv_aload_n hx hb dX4_findGap_0 rfl (lv_at hl 0 rfl) ?_
  refine gf_X4_16 hE hst 0 rfl rfl dX4_findGap_1 ?_
  refine lv_if_eq (tgt := 14) hx hb dX4_findGap_4 (by decide) (fun c_4 => ?_) (fun c_4 => ?_)
  · skip
    refine lv_iconst (v := 0) hx hb dX4_findGap_14 (by decide) ?_
    exact q_retZ hQ hE hr hk hst () (rfl) (by simp [gapB, b2i, c_4]) (trivial) (by simp [gapB, gapN, gapD, c_4]) dX4_findGap_15
  · skip
    refine lv_aload_n hx hb dX4_findGap_7 rfl (lv_at hl 0 rfl) ?_
    refine gf_X4_20 hE hst 0 rfl rfl dX4_findGap_8 ?_
    refine lv_if_ne (tgt := 16) hx hb dX4_findGap_11 (by decide) (fun c_11 => ?_) (fun c_11 => ?_)
    · skip
      refine lv_aload_n hx hb dX4_findGap_16 rfl (lv_at hl 1 rfl) ?_
      refine lv_aload_n hx hb dX4_findGap_17 rfl (lv_at hl 0 rfl) ?_
      refine gf_X4_7 hE hst 0 rfl rfl dX4_findGap_18 ?_
      refine lv_aload_n hx hb dX4_findGap_21 rfl (lv_at hl 0 rfl) ?_
      refine gf_X4_20 hE hst 0 rfl rfl dX4_findGap_22 ?_
      refine lv_i2l (v := om.toInt64) hx hb dX4_findGap_25 rfl ?_
      refine lv_lmul hx hb dX4_findGap_26 ?_
      refine lv_aload_n hx hb dX4_findGap_27 rfl (lv_at hl 0 rfl) ?_
      refine gf_X4_13 hE hst 0 rfl rfl dX4_findGap_28 ?_
      refine lv_aload_n hx hb dX4_findGap_31 rfl (lv_at hl 0 rfl) ?_
      refine gf_X4_16 hE hst 0 rfl rfl dX4_findGap_32 ?_
      refine lv_i2l (v := cm.toInt64) hx hb dX4_findGap_35 rfl ?_
      refine lv_lmul hx hb dX4_findGap_36 ?_
      refine lv_lsub hx hb dX4_findGap_37 ?_
      refine lv_aload_n hx hb dX4_findGap_38 rfl (lv_at hl 0 rfl) ?_
      refine gf_X4_16 hE hst 0 rfl rfl dX4_findGap_39 ?_
      refine lv_i2l (v := cm.toInt64) hx hb dX4_findGap_42 rfl ?_
      refine lv_aload_n hx hb dX4_findGap_43 rfl (lv_at hl 0 rfl) ?_
      refine gf_X4_20 hE hst 0 rfl rfl dX4_findGap_44 ?_
      refine lv_i2l (v := om.toInt64) hx hb dX4_findGap_47 rfl ?_
      refine lv_lmul hx hb dX4_findGap_48 ?_
      refine q_goV (q_rNV hE lk_X4_23 (c_X3_become l D cI cJ cZ r ra rb ((cs * om.toInt64) - (os * cm.toInt64)) (cm.toInt64 * om.toInt64) s.heap.size) hst [1] rfl rfl rfl rfl rfl hl.1 ⟨(Nat.le_of_ble_eq_true rfl), (Nat.le_of_ble_eq_true rfl)⟩ (rest := []) rfl (Nat.le_of_ble_eq_true rfl) dX4_findGap_49 ⟨(Nat.le_of_ble_eq_true rfl), (Nat.le_of_ble_eq_true rfl)⟩) hE hst [1] rfl (fun _ => rfl) (fun (_ : Unit) => [(h, .inr (4, [.long cs, .long os, .int cm, .int om])), (r, .inr (3, [.long (becA ((cs * om.toInt64) - (os * cm.toInt64)) (cm.toInt64 * om.toInt64)), .long (becB ((cs * om.toInt64) - (os * cm.toInt64)) (cm.toInt64 * om.toInt64))]))]) (fun _ => rfl) (fun _ H locs hF hst => ?_)
      refine lv_iconst (v := 1) hx hb dX4_findGap_52 (by decide) ?_
      exact q_retZ hQ hE hr hk hst () (rfl) (by simp [gapB, b2i, c_4, c_11]) (trivial) (by simp [gapB, gapN, gapD, c_4, c_11]) dX4_findGap_53
    · skip
      refine lv_iconst (v := 0) hx hb dX4_findGap_14 (by decide) ?_
      exact q_retZ hQ hE hr hk hst () (rfl) (by simp [gapB, b2i, c_4, c_11]) (trivial) (by simp [gapB, gapN, gapD, c_4, c_11]) dX4_findGap_15
/-! men -/
set_option maxHeartbeats 4000000 in
set_option maxRecDepth 100000 in
theorem c_X2_kindAt (l : Launch) (D : va_G) (cI cJ cZ : ClassId) (h : Nat) (qk : Nat) (qb : Nat) (qp : Nat) (sz : Int32) (p0 : Int32) (ki : Nat → Int32) : CtI l D cI cJ cZ yX2_kindAt cX2_kindAt 2 (some .int) 1 [.ref h, .int p0] [(h, .inr (2, [.ref qk, .ref qb, .ref qp, .int sz])), (qk, .inl (cI, 60, .inl ki))] (fun (_ : Unit) => atI 60 ki p0) (fun (_ : Unit) => True) (fun (_ : Unit) => [(h, .inr (2, [.ref qk, .ref qb, .ref qp, .int sz])), (qk, .inl (cI, 60, .inl ki))]) := by
  refine q_entI (own := RX2) rfl rfl (Nat.le_of_ble_eq_true rfl) ?_
  intro p e s m args below meth c A ls QQ hQ hE hx hb hr hk hin hA hl hst
  have hl : lv_has ls 2 [(0, .ref h), (1, .int p0)] := hl
  refine lv_aload_n hx hb dX2_kindAt_0 rfl (lv_at hl 0 rfl) ?_
  refine gf_X2_9 hE hst 0 rfl rfl dX2_kindAt_1 ?_
  refine lv_iload_n hx hb dX2_kindAt_4 rfl (lv_at hl 1 rfl) ?_
  refine q_goI (q_rNS hE lk_X2_33 (c_X6_at l D cI cJ cZ qk 60 ki p0 (by first | assumption | decide | omega) s.heap.size) hst [1] rfl rfl rfl hl.1 ⟨(Nat.le_of_ble_eq_true rfl), (Nat.le_of_ble_eq_true rfl)⟩ (rest := []) rfl (Nat.le_of_ble_eq_true rfl) dX2_kindAt_5 ⟨(Nat.le_of_ble_eq_true rfl), (Nat.le_of_ble_eq_true rfl)⟩) hE hst [1] rfl (fun _ => rfl) (fun (_ : Unit) => [(h, .inr (2, [.ref qk, .ref qb, .ref qp, .int sz])), (qk, .inl (cI, 60, .inl ki))]) (fun _ => rfl) (fun _ H locs hF hst => ?_)
  exact q_retI hQ hE hr hk hst () (rfl) (trivial) (rfl) dX2_kindAt_8
set_option maxHeartbeats 4000000 in
set_option maxRecDepth 100000 in
theorem c_X2_birthdayAt (l : Launch) (D : va_G) (cI cJ cZ : ClassId) (h : Nat) (qk : Nat) (qb : Nat) (qp : Nat) (sz : Int32) (p0 : Int32) (bi : Nat → Int32) : CtI l D cI cJ cZ yX2_birthdayAt cX2_birthdayAt 2 (some .int) 1 [.ref h, .int p0] [(h, .inr (2, [.ref qk, .ref qb, .ref qp, .int sz])), (qb, .inl (cI, 60, .inl bi))] (fun (_ : Unit) => atI 60 bi p0) (fun (_ : Unit) => True) (fun (_ : Unit) => [(h, .inr (2, [.ref qk, .ref qb, .ref qp, .int sz])), (qb, .inl (cI, 60, .inl bi))]) := by
  refine q_entI (own := RX2) rfl rfl (Nat.le_of_ble_eq_true rfl) ?_
  intro p e s m args below meth c A ls QQ hQ hE hx hb hr hk hin hA hl hst
  have hl : lv_has ls 2 [(0, .ref h), (1, .int p0)] := hl
  refine lv_aload_n hx hb dX2_birthdayAt_0 rfl (lv_at hl 0 rfl) ?_
  refine gf_X2_15 hE hst 0 rfl rfl dX2_birthdayAt_1 ?_
  refine lv_iload_n hx hb dX2_birthdayAt_4 rfl (lv_at hl 1 rfl) ?_
  refine q_goI (q_rNS hE lk_X2_33 (c_X6_at l D cI cJ cZ qb 60 bi p0 (by first | assumption | decide | omega) s.heap.size) hst [1] rfl rfl rfl hl.1 ⟨(Nat.le_of_ble_eq_true rfl), (Nat.le_of_ble_eq_true rfl)⟩ (rest := []) rfl (Nat.le_of_ble_eq_true rfl) dX2_birthdayAt_5 ⟨(Nat.le_of_ble_eq_true rfl), (Nat.le_of_ble_eq_true rfl)⟩) hE hst [1] rfl (fun _ => rfl) (fun (_ : Unit) => [(h, .inr (2, [.ref qk, .ref qb, .ref qp, .int sz])), (qb, .inl (cI, 60, .inl bi))]) (fun _ => rfl) (fun _ H locs hF hst => ?_)
  exact q_retI hQ hE hr hk hst () (rfl) (trivial) (rfl) dX2_birthdayAt_8
set_option maxHeartbeats 4000000 in
set_option maxRecDepth 100000 in
theorem c_X2_payAt (l : Launch) (D : va_G) (cI cJ cZ : ClassId) (h : Nat) (qk : Nat) (qb : Nat) (qp : Nat) (sz : Int32) (p0 : Int32) (pa : Nat → Int32) : CtI l D cI cJ cZ yX2_payAt cX2_payAt 2 (some .int) 1 [.ref h, .int p0] [(h, .inr (2, [.ref qk, .ref qb, .ref qp, .int sz])), (qp, .inl (cI, 60, .inl pa))] (fun (_ : Unit) => atI 60 pa p0) (fun (_ : Unit) => True) (fun (_ : Unit) => [(h, .inr (2, [.ref qk, .ref qb, .ref qp, .int sz])), (qp, .inl (cI, 60, .inl pa))]) := by
  refine q_entI (own := RX2) rfl rfl (Nat.le_of_ble_eq_true rfl) ?_
  intro p e s m args below meth c A ls QQ hQ hE hx hb hr hk hin hA hl hst
  have hl : lv_has ls 2 [(0, .ref h), (1, .int p0)] := hl
  refine lv_aload_n hx hb dX2_payAt_0 rfl (lv_at hl 0 rfl) ?_
  refine gf_X2_18 hE hst 0 rfl rfl dX2_payAt_1 ?_
  refine lv_iload_n hx hb dX2_payAt_4 rfl (lv_at hl 1 rfl) ?_
  refine q_goI (q_rNS hE lk_X2_33 (c_X6_at l D cI cJ cZ qp 60 pa p0 (by first | assumption | decide | omega) s.heap.size) hst [1] rfl rfl rfl hl.1 ⟨(Nat.le_of_ble_eq_true rfl), (Nat.le_of_ble_eq_true rfl)⟩ (rest := []) rfl (Nat.le_of_ble_eq_true rfl) dX2_payAt_5 ⟨(Nat.le_of_ble_eq_true rfl), (Nat.le_of_ble_eq_true rfl)⟩) hE hst [1] rfl (fun _ => rfl) (fun (_ : Unit) => [(h, .inr (2, [.ref qk, .ref qb, .ref qp, .int sz])), (qp, .inl (cI, 60, .inl pa))]) (fun _ => rfl) (fun _ H locs hF hst => ?_)
  exact q_retI hQ hE hr hk hst () (rfl) (trivial) (rfl) dX2_payAt_8
set_option maxHeartbeats 4000000 in
set_option maxRecDepth 100000 in
theorem c_X2_enrol (l : Launch) (D : va_G) (cI cJ cZ : ClassId) (h : Nat) (qk : Nat) (qb : Nat) (qp : Nat) (sz : Int32) (p0 : Int32) (p1 : Int32) (p2 : Int32) (ki : Nat → Int32) (bi : Nat → Int32) (pa : Nat → Int32) : CtI l D cI cJ cZ yX2_enrol cX2_enrol 5 (some .int) 1 [.ref h, .int p0, .int p1, .int p2] [(h, .inr (2, [.ref qk, .ref qb, .ref qp, .int sz])), (qk, .inl (cI, 60, .inl ki)), (qb, .inl (cI, 60, .inl bi)), (qp, .inl (cI, 60, .inl pa))] (fun (_ : Unit) => sz) (fun (_ : Unit) => True) (fun (_ : Unit) => [(h, .inr (2, [.ref qk, .ref qb, .ref qp, .int (sz + 1)])), (qk, .inl (cI, 60, .inl (putI 60 ki sz p0))), (qb, .inl (cI, 60, .inl (putI 60 bi sz p1))), (qp, .inl (cI, 60, .inl (putI 60 pa sz p2)))]) := by
  refine q_entI (own := RX2) rfl rfl (Nat.le_of_ble_eq_true rfl) ?_
  intro p e s m args below meth c A ls QQ hQ hE hx hb hr hk hin hA hl hst
  have hl : lv_has ls 5 [(0, .ref h), (1, .int p0), (2, .int p1), (3, .int p2)] := hl
  refine lv_aload_n hx hb dX2_enrol_0 rfl (lv_at hl 0 rfl) ?_
  refine gf_X2_21 hE hst 0 rfl rfl dX2_enrol_1 ?_
  refine lv_istore (lv' := [(4, .int sz), (0, .ref h), (1, .int p0), (2, .int p1), (3, .int p2)]) hx hb dX2_enrol_4 hl (by decide) rfl (fun ls hl => ?_)
  refine lv_aload_n hx hb dX2_enrol_6 rfl (lv_at hl 1 rfl) ?_
  refine gf_X2_9 hE hst 0 rfl rfl dX2_enrol_7 ?_
  refine lv_iload hx hb dX2_enrol_10 (lv_at hl 0 rfl) ?_
  refine lv_iload_n hx hb dX2_enrol_12 rfl (lv_at hl 2 rfl) ?_
  refine q_goV (q_rNS hE lk_X2_25 (c_X6_put l D cI cJ cZ qk 60 ki sz p0 (by first | assumption | decide | omega) s.heap.size) hst [1] rfl rfl rfl hl.1 ⟨(Nat.le_of_ble_eq_true rfl), (Nat.le_of_ble_eq_true rfl)⟩ (rest := []) rfl (Nat.le_of_ble_eq_true rfl) dX2_enrol_13 ⟨(Nat.le_of_ble_eq_true rfl), (Nat.le_of_ble_eq_true rfl)⟩) hE hst [1] rfl (fun _ => rfl) (fun (_ : Unit) => [(h, .inr (2, [.ref qk, .ref qb, .ref qp, .int sz])), (qk, .inl (cI, 60, .inl (putI 60 ki sz p0))), (qb, .inl (cI, 60, .inl bi)), (qp, .inl (cI, 60, .inl pa))]) (fun _ => rfl) (fun _ H locs hF hst => ?_)
  refine lv_aload_n hx hb dX2_enrol_16 rfl (lv_at hl 1 rfl) ?_
  refine gf_X2_15 hE hst 0 rfl rfl dX2_enrol_17 ?_
  refine lv_iload hx hb dX2_enrol_20 (lv_at hl 0 rfl) ?_
  refine lv_iload_n hx hb dX2_enrol_22 rfl (lv_at hl 3 rfl) ?_
  refine q_goV (q_rNS hE lk_X2_25 (c_X6_put l D cI cJ cZ qb 60 bi sz p1 (by first | assumption | decide | omega) H.size) hst [2] rfl rfl rfl hl.1 ⟨(Nat.le_of_ble_eq_true rfl), (Nat.le_of_ble_eq_true rfl)⟩ (rest := []) rfl (Nat.le_of_ble_eq_true rfl) dX2_enrol_23 ⟨(Nat.le_of_ble_eq_true rfl), (Nat.le_of_ble_eq_true rfl)⟩) hE hst [2] rfl (fun _ => rfl) (fun (_ : Unit) => [(h, .inr (2, [.ref qk, .ref qb, .ref qp, .int sz])), (qk, .inl (cI, 60, .inl (putI 60 ki sz p0))), (qb, .inl (cI, 60, .inl (putI 60 bi sz p1))), (qp, .inl (cI, 60, .inl pa))]) (fun _ => rfl) (fun _ H locs hF hst => ?_)
  refine lv_aload_n hx hb dX2_enrol_26 rfl (lv_at hl 1 rfl) ?_
  refine gf_X2_18 hE hst 0 rfl rfl dX2_enrol_27 ?_
  refine lv_iload hx hb dX2_enrol_30 (lv_at hl 0 rfl) ?_
  refine lv_iload_n hx hb dX2_enrol_32 rfl (lv_at hl 4 rfl) ?_
  refine q_goV (q_rNS hE lk_X2_25 (c_X6_put l D cI cJ cZ qp 60 pa sz p2 (by first | assumption | decide | omega) H.size) hst [3] rfl rfl rfl hl.1 ⟨(Nat.le_of_ble_eq_true rfl), (Nat.le_of_ble_eq_true rfl)⟩ (rest := []) rfl (Nat.le_of_ble_eq_true rfl) dX2_enrol_33 ⟨(Nat.le_of_ble_eq_true rfl), (Nat.le_of_ble_eq_true rfl)⟩) hE hst [3] rfl (fun _ => rfl) (fun (_ : Unit) => [(h, .inr (2, [.ref qk, .ref qb, .ref qp, .int sz])), (qk, .inl (cI, 60, .inl (putI 60 ki sz p0))), (qb, .inl (cI, 60, .inl (putI 60 bi sz p1))), (qp, .inl (cI, 60, .inl (putI 60 pa sz p2)))]) (fun _ => rfl) (fun _ H locs hF hst => ?_)
  refine lv_aload_n hx hb dX2_enrol_36 rfl (lv_at hl 1 rfl) ?_
  refine lv_dup hx hb dX2_enrol_37 rfl ?_
  refine gf_X2_21 hE hst 0 rfl rfl dX2_enrol_38 ?_
  refine lv_iconst (v := 1) hx hb dX2_enrol_41 (by decide) ?_
  refine lv_iadd hx hb dX2_enrol_42 ?_
  refine pf_X2_21 hE hst 0 rfl (rfl) (rfl) (Nat.le_of_ble_eq_true rfl) [(h, .inr (2, [.ref qk, .ref qb, .ref qp, .int (sz + 1)])), (qk, .inl (cI, 60, .inl (putI 60 ki sz p0))), (qb, .inl (cI, 60, .inl (putI 60 bi sz p1))), (qp, .inl (cI, 60, .inl (putI 60 pa sz p2)))] rfl dX2_enrol_43 (fun H locs hst => ?_)
  refine lv_iload hx hb dX2_enrol_46 (lv_at hl 0 rfl) ?_
  exact q_retI hQ hE hr hk hst () (rfl) (trivial) (rfl) dX2_enrol_48
set_option maxHeartbeats 4000000 in
set_option maxRecDepth 100000 in
theorem c_X2_copyMen (l : Launch) (D : va_G) (cI cJ cZ : ClassId) (h : Nat) (qk : Nat) (qb : Nat) (qp : Nat) (g : Nat) (rk : Nat) (rb : Nat) (rp : Nat) (sz : Int32) (sy : Int32) (ki : Nat → Int32) (bi : Nat → Int32) (pa : Nat → Int32) (ky : Nat → Int32) (by_ : Nat → Int32) (py_ : Nat → Int32) : CtV l D cI cJ cZ yX2_copyMen cX2_copyMen 2 none 2 0 0 [.ref h, .ref g] [(h, .inr (2, [.ref qk, .ref qb, .ref qp, .int sz])), (qk, .inl (cI, 60, .inl ki)), (qb, .inl (cI, 60, .inl bi)), (qp, .inl (cI, 60, .inl pa)), (g, .inr (2, [.ref rk, .ref rb, .ref rp, .int sy])), (rk, .inl (cI, 60, .inl ky)), (rb, .inl (cI, 60, .inl by_)), (rp, .inl (cI, 60, .inl py_))] (fun (_ : Unit) => True) (fun (_ : Unit) => [(h, .inr (2, [.ref qk, .ref qb, .ref qp, .int sy])), (qk, .inl (cI, 60, .inl ky)), (qb, .inl (cI, 60, .inl by_)), (qp, .inl (cI, 60, .inl py_)), (g, .inr (2, [.ref rk, .ref rb, .ref rp, .int sy])), (rk, .inl (cI, 60, .inl ky)), (rb, .inl (cI, 60, .inl by_)), (rp, .inl (cI, 60, .inl py_))]) := by
  refine q_entV (own := RX2) rfl rfl (Nat.le_of_ble_eq_true rfl) ?_
  intro p e s m args below meth c A ls QQ hQ hE hx hb hr hk hin hA hl hst
  have hl : lv_has ls 2 [(0, .ref h), (1, .ref g)] := hl
  refine lv_aload_n hx hb dX2_copyMen_0 rfl (lv_at hl 1 rfl) ?_
  refine gf_X2_9 hE hst 4 rfl rfl dX2_copyMen_1 ?_
  refine lv_aload_n hx hb dX2_copyMen_4 rfl (lv_at hl 0 rfl) ?_
  refine gf_X2_9 hE hst 0 rfl rfl dX2_copyMen_5 ?_
  refine q_goV (q_rNS hE lk_X2_29 (c_X6_copyRow l D cI cJ cZ rk qk 60 ky ki (by first | assumption | decide | omega) s.heap.size) hst [5, 1] rfl rfl rfl hl.1 ⟨(Nat.le_of_ble_eq_true rfl), (Nat.le_of_ble_eq_true rfl)⟩ (rest := []) rfl (Nat.le_of_ble_eq_true rfl) dX2_copyMen_8 ⟨(Nat.le_of_ble_eq_true rfl), (Nat.le_of_ble_eq_true rfl)⟩) hE hst [5, 1] rfl (fun _ => rfl) (fun (_ : Unit) => [(h, .inr (2, [.ref qk, .ref qb, .ref qp, .int sz])), (qk, .inl (cI, 60, .inl ky)), (qb, .inl (cI, 60, .inl bi)), (qp, .inl (cI, 60, .inl pa)), (g, .inr (2, [.ref rk, .ref rb, .ref rp, .int sy])), (rk, .inl (cI, 60, .inl ky)), (rb, .inl (cI, 60, .inl by_)), (rp, .inl (cI, 60, .inl py_))]) (fun _ => rfl) (fun _ H locs hF hst => ?_)
  refine lv_aload_n hx hb dX2_copyMen_11 rfl (lv_at hl 1 rfl) ?_
  refine gf_X2_15 hE hst 4 rfl rfl dX2_copyMen_12 ?_
  refine lv_aload_n hx hb dX2_copyMen_15 rfl (lv_at hl 0 rfl) ?_
  refine gf_X2_15 hE hst 0 rfl rfl dX2_copyMen_16 ?_
  refine q_goV (q_rNS hE lk_X2_29 (c_X6_copyRow l D cI cJ cZ rb qb 60 by_ bi (by first | assumption | decide | omega) H.size) hst [6, 2] rfl rfl rfl hl.1 ⟨(Nat.le_of_ble_eq_true rfl), (Nat.le_of_ble_eq_true rfl)⟩ (rest := []) rfl (Nat.le_of_ble_eq_true rfl) dX2_copyMen_19 ⟨(Nat.le_of_ble_eq_true rfl), (Nat.le_of_ble_eq_true rfl)⟩) hE hst [6, 2] rfl (fun _ => rfl) (fun (_ : Unit) => [(h, .inr (2, [.ref qk, .ref qb, .ref qp, .int sz])), (qk, .inl (cI, 60, .inl ky)), (qb, .inl (cI, 60, .inl by_)), (qp, .inl (cI, 60, .inl pa)), (g, .inr (2, [.ref rk, .ref rb, .ref rp, .int sy])), (rk, .inl (cI, 60, .inl ky)), (rb, .inl (cI, 60, .inl by_)), (rp, .inl (cI, 60, .inl py_))]) (fun _ => rfl) (fun _ H locs hF hst => ?_)
  refine lv_aload_n hx hb dX2_copyMen_22 rfl (lv_at hl 1 rfl) ?_
  refine gf_X2_18 hE hst 4 rfl rfl dX2_copyMen_23 ?_
  refine lv_aload_n hx hb dX2_copyMen_26 rfl (lv_at hl 0 rfl) ?_
  refine gf_X2_18 hE hst 0 rfl rfl dX2_copyMen_27 ?_
  refine q_goV (q_rNS hE lk_X2_29 (c_X6_copyRow l D cI cJ cZ rp qp 60 py_ pa (by first | assumption | decide | omega) H.size) hst [7, 3] rfl rfl rfl hl.1 ⟨(Nat.le_of_ble_eq_true rfl), (Nat.le_of_ble_eq_true rfl)⟩ (rest := []) rfl (Nat.le_of_ble_eq_true rfl) dX2_copyMen_30 ⟨(Nat.le_of_ble_eq_true rfl), (Nat.le_of_ble_eq_true rfl)⟩) hE hst [7, 3] rfl (fun _ => rfl) (fun (_ : Unit) => [(h, .inr (2, [.ref qk, .ref qb, .ref qp, .int sz])), (qk, .inl (cI, 60, .inl ky)), (qb, .inl (cI, 60, .inl by_)), (qp, .inl (cI, 60, .inl py_)), (g, .inr (2, [.ref rk, .ref rb, .ref rp, .int sy])), (rk, .inl (cI, 60, .inl ky)), (rb, .inl (cI, 60, .inl by_)), (rp, .inl (cI, 60, .inl py_))]) (fun _ => rfl) (fun _ H locs hF hst => ?_)
  refine lv_aload_n hx hb dX2_copyMen_33 rfl (lv_at hl 0 rfl) ?_
  refine lv_aload_n hx hb dX2_copyMen_34 rfl (lv_at hl 1 rfl) ?_
  refine gf_X2_21 hE hst 4 rfl rfl dX2_copyMen_35 ?_
  refine pf_X2_21 hE hst 0 rfl (rfl) (rfl) (Nat.le_of_ble_eq_true rfl) [(h, .inr (2, [.ref qk, .ref qb, .ref qp, .int sy])), (qk, .inl (cI, 60, .inl ky)), (qb, .inl (cI, 60, .inl by_)), (qp, .inl (cI, 60, .inl py_)), (g, .inr (2, [.ref rk, .ref rb, .ref rp, .int sy])), (rk, .inl (cI, 60, .inl ky)), (rb, .inl (cI, 60, .inl by_)), (rp, .inl (cI, 60, .inl py_))] rfl dX2_copyMen_38 (fun H locs hst => ?_)
  exact q_retV hQ hE hr hk hst () (trivial) (rfl) dX2_copyMen_41
/-! the tape -/
def tapeAt (tl : Int32) (tb : Nat → Int32) (i : Int32) : Int32 := if i < 0 then -1 else if tl ≤ i then -1 else atI 14 tb i
def digB (x : Int32) : Bool := !decide (x < 48) && !decide (57 < x)
def eod (tl : Int32) (tb : Nat → Int32) : Nat → Nat → Nat
  | 0, j => j
  | n + 1, j => if digB (tapeAt tl tb (nI j)) = true then eod tl tb n (j + 1) else j
def valL (tl : Int32) (tb : Nat → Int32) : Nat → Nat → Int32 → Int32
  | 0, _, v => v
  | n + 1, j, v => valL tl tb n (j + 1) (10 * v + tapeAt tl tb (nI j) - 48)
def kindLet (x : Int32) : Int32 := if x = 115 then 0 else if x = 97 then 1 else if x = 110 then 2 else if x = 102 then 3 else if x = 99 then 4 else if x = 108 then 5 else -1
theorem eod_le (tl : Int32) (tb : Nat → Int32) : ∀ n j, j ≤ eod tl tb n j ∧ eod tl tb n j ≤ j + n
  | 0, j => ⟨Nat.le_refl _, Nat.le_refl _⟩
  | n + 1, j => by
    rw [eod]
    by_cases h : digB (tapeAt tl tb (nI j)) = true
    · rw [if_pos h]
      have := eod_le tl tb n (j + 1)
      omega
    · rw [if_neg h]
      omega
def byteOf (w : Int64) (i : Nat) : Int32 := ((w.toUInt64 >>> ((8 * nI i).toInt64.toUInt64 &&& Int64.toUInt64 63)).toInt64).toInt32 &&& 255
def appL (w : Int64) (t : Nat) (tb : Nat → Int32) : Nat → Nat → Int32
  | 0 => tb
  | i + 1 => upd (appL w t tb i) (t + i) (byteOf w i)
set_option maxHeartbeats 4000000 in
set_option maxRecDepth 100000 in
theorem c_X5_hasRoomFor (l : Launch) (D : va_G) (cI cJ cZ : ClassId) (h : Nat) (q : Nat) (tl : Int32) (tk : Int32) (tbd : Int32) (tp : Int32) (p0 : Int32) : CtI l D cI cJ cZ yX5_hasRoomFor cX5_hasRoomFor 2 (some .boolean) 0 [.ref h, .int p0] [(h, .inr (5, [.ref q, .int tl, .int tk, .int tbd, .int tp]))] (fun (_ : Unit) => b2i (decide (p0 ≤ 14 - tl))) (fun (_ : Unit) => True) (fun (_ : Unit) => [(h, .inr (5, [.ref q, .int tl, .int tk, .int tbd, .int tp]))]) := by
  refine q_entI (own := RX5) rfl rfl (Nat.le_of_ble_eq_true rfl) ?_
  intro p e s m args below meth c A ls QQ hQ hE hx hb hr hk hin hA hl hst
  have hl : lv_has ls 2 [(0, .ref h), (1, .int p0)] := hl
  refine lv_iload_n hx hb dX5_hasRoomFor_0 rfl (lv_at hl 1 rfl) ?_
  refine lv_bipush (v := 14) hx hb dX5_hasRoomFor_1 (by decide) ?_
  refine lv_aload_n hx hb dX5_hasRoomFor_3 rfl (lv_at hl 0 rfl) ?_
  refine gf_X5_15 hE hst 0 rfl rfl dX5_hasRoomFor_4 ?_
  refine lv_isub hx hb dX5_hasRoomFor_7 ?_
  refine lv_icmp_gt (tgt := 15) hx hb dX5_hasRoomFor_8 (by decide) (fun c_8 => ?_) (fun c_8 => ?_)
  · skip
    refine lv_iconst (v := 0) hx hb dX5_hasRoomFor_15 (by decide) ?_
    exact q_retZ hQ hE hr hk hst () (rfl) (by rw [decide_eq_false (Int32.not_le.mpr c_8)]; rfl) (trivial) (rfl) dX5_hasRoomFor_16
  · skip
    refine lv_iconst (v := 1) hx hb dX5_hasRoomFor_11 (by decide) ?_
    refine lv_goto (tgt := 16) hx hb dX5_hasRoomFor_12 (by decide) ?_
    exact q_retZ hQ hE hr hk hst () (rfl) (by rw [decide_eq_true (Int32.not_lt.mp c_8)]; rfl) (trivial) (rfl) dX5_hasRoomFor_16
set_option maxHeartbeats 4000000 in
set_option maxRecDepth 100000 in
theorem c_X5_empty (l : Launch) (D : va_G) (cI cJ cZ : ClassId) (h : Nat) (q : Nat) (tl : Int32) (tk : Int32) (tbd : Int32) (tp : Int32) : CtV l D cI cJ cZ yX5_empty cX5_empty 1 none 0 0 0 [.ref h] [(h, .inr (5, [.ref q, .int tl, .int tk, .int tbd, .int tp]))] (fun (_ : Unit) => True) (fun (_ : Unit) => [(h, .inr (5, [.ref q, .int 0, .int tk, .int tbd, .int tp]))]) := by
  refine q_entV (own := RX5) rfl rfl (Nat.le_of_ble_eq_true rfl) ?_
  intro p e s m args below meth c A ls QQ hQ hE hx hb hr hk hin hA hl hst
  have hl : lv_has ls 1 [(0, .ref h)] := hl
  refine lv_aload_n hx hb dX5_empty_0 rfl (lv_at hl 0 rfl) ?_
  refine lv_iconst (v := 0) hx hb dX5_empty_1 (by decide) ?_
  refine pf_X5_15 hE hst 0 rfl (rfl) (rfl) (Nat.le_of_ble_eq_true rfl) [(h, .inr (5, [.ref q, .int 0, .int tk, .int tbd, .int tp]))] rfl dX5_empty_2 (fun H locs hst => ?_)
  exact q_retV hQ hE hr hk hst () (trivial) (rfl) dX5_empty_5
set_option maxHeartbeats 4000000 in
set_option maxRecDepth 100000 in
theorem c_X5_byteAt (l : Launch) (D : va_G) (cI cJ cZ : ClassId) (h : Nat) (q : Nat) (tl : Int32) (tk : Int32) (tbd : Int32) (tp : Int32) (tb : Nat → Int32) (p0 : Int32) : CtI l D cI cJ cZ yX5_byteAt cX5_byteAt 2 (some .int) 1 [.ref h, .int p0] [(h, .inr (5, [.ref q, .int tl, .int tk, .int tbd, .int tp])), (q, .inl (cI, 14, .inl tb))] (fun (_ : Unit) => tapeAt tl tb p0) (fun (_ : Unit) => True) (fun (_ : Unit) => [(h, .inr (5, [.ref q, .int tl, .int tk, .int tbd, .int tp])), (q, .inl (cI, 14, .inl tb))]) := by
  refine q_entI (own := RX5) rfl rfl (Nat.le_of_ble_eq_true rfl) ?_
  intro p e s m args below meth c A ls QQ hQ hE hx hb hr hk hin hA hl hst
  have hl : lv_has ls 2 [(0, .ref h), (1, .int p0)] := hl
  refine lv_iload_n hx hb dX5_byteAt_0 rfl (lv_at hl 1 rfl) ?_
  refine lv_if_lt (tgt := 23) hx hb dX5_byteAt_1 (by decide) (fun c_1 => ?_) (fun c_1 => ?_)
  · skip
    refine lv_iconst (v := (-1)) hx hb dX5_byteAt_23 (by decide) ?_
    exact q_retI hQ hE hr hk hst () (by rw [tapeAt, if_pos c_1]) (trivial) (rfl) dX5_byteAt_24
  · skip
    refine lv_iload_n hx hb dX5_byteAt_4 rfl (lv_at hl 1 rfl) ?_
    refine lv_aload_n hx hb dX5_byteAt_5 rfl (lv_at hl 0 rfl) ?_
    refine gf_X5_15 hE hst 0 rfl rfl dX5_byteAt_6 ?_
    refine lv_icmp_ge (tgt := 23) hx hb dX5_byteAt_9 (by decide) (fun c_9 => ?_) (fun c_9 => ?_)
    · skip
      refine lv_iconst (v := (-1)) hx hb dX5_byteAt_23 (by decide) ?_
      exact q_retI hQ hE hr hk hst () (by rw [tapeAt, if_neg c_1, if_pos c_9]) (trivial) (rfl) dX5_byteAt_24
    · skip
      refine lv_aload_n hx hb dX5_byteAt_12 rfl (lv_at hl 0 rfl) ?_
      refine gf_X5_9 hE hst 0 rfl rfl dX5_byteAt_13 ?_
      refine lv_iload_n hx hb dX5_byteAt_16 rfl (lv_at hl 1 rfl) ?_
      refine q_goI (q_rNS hE lk_X5_46 (c_X6_at l D cI cJ cZ q 14 tb p0 (by first | assumption | decide | omega) s.heap.size) hst [1] rfl rfl rfl hl.1 ⟨(Nat.le_of_ble_eq_true rfl), (Nat.le_of_ble_eq_true rfl)⟩ (rest := []) rfl (Nat.le_of_ble_eq_true rfl) dX5_byteAt_17 ⟨(Nat.le_of_ble_eq_true rfl), (Nat.le_of_ble_eq_true rfl)⟩) hE hst [1] rfl (fun _ => rfl) (fun (_ : Unit) => [(h, .inr (5, [.ref q, .int tl, .int tk, .int tbd, .int tp])), (q, .inl (cI, 14, .inl tb))]) (fun _ => rfl) (fun _ H locs hF hst => ?_)
      refine lv_goto (tgt := 24) hx hb dX5_byteAt_20 (by decide) ?_
      exact q_retI hQ hE hr hk hst () (by rw [tapeAt, if_neg c_1, if_neg c_9]) (trivial) (rfl) dX5_byteAt_24
set_option maxHeartbeats 4000000 in
set_option maxRecDepth 100000 in
theorem c_X5_isDigit (l : Launch) (D : va_G) (cI cJ cZ : ClassId) (h : Nat) (q : Nat) (tl : Int32) (tk : Int32) (tbd : Int32) (tp : Int32) (tb : Nat → Int32) (p0 : Int32) : CtI l D cI cJ cZ yX5_isDigit cX5_isDigit 2 (some .boolean) 2 [.ref h, .int p0] [(h, .inr (5, [.ref q, .int tl, .int tk, .int tbd, .int tp])), (q, .inl (cI, 14, .inl tb))] (fun (_ : Unit) => b2i (digB (tapeAt tl tb p0))) (fun (_ : Unit) => True) (fun (_ : Unit) => [(h, .inr (5, [.ref q, .int tl, .int tk, .int tbd, .int tp])), (q, .inl (cI, 14, .inl tb))]) := by
  refine q_entI (own := RX5) rfl rfl (Nat.le_of_ble_eq_true rfl) ?_
  intro p e s m args below meth c A ls QQ hQ hE hx hb hr hk hin hA hl hst
  have hl : lv_has ls 2 [(0, .ref h), (1, .int p0)] := hl
  refine lv_aload_n hx hb dX5_isDigit_0 rfl (lv_at hl 0 rfl) ?_
  refine lv_iload_n hx hb dX5_isDigit_1 rfl (lv_at hl 1 rfl) ?_
  refine q_goI (q_rV hE lk_X5_32 (c_X5_byteAt l D cI cJ cZ h q tl tk tbd tp tb p0 s.heap.size) hst [0, 1] rfl rfl rfl rfl rfl hl.1 ⟨(Nat.le_of_ble_eq_true rfl), (Nat.le_of_ble_eq_true rfl)⟩ (rest := []) rfl (Nat.le_of_ble_eq_true rfl) dX5_isDigit_2 ⟨(Nat.le_of_ble_eq_true rfl), (Nat.le_of_ble_eq_true rfl)⟩) hE hst [0, 1] rfl (fun _ => rfl) (fun (_ : Unit) => [(h, .inr (5, [.ref q, .int tl, .int tk, .int tbd, .int tp])), (q, .inl (cI, 14, .inl tb))]) (fun _ => rfl) (fun _ H locs hF hst => ?_)
  refine lv_bipush (v := 48) hx hb dX5_isDigit_5 (by decide) ?_
  refine lv_icmp_lt (tgt := 24) hx hb dX5_isDigit_7 (by decide) (fun c_7 => ?_) (fun c_7 => ?_)
  · skip
    refine lv_iconst (v := 0) hx hb dX5_isDigit_24 (by decide) ?_
    exact q_retZ hQ hE hr hk hst () (rfl) (by simp [digB, b2i, c_7]) (trivial) (rfl) dX5_isDigit_25
  · skip
    refine lv_aload_n hx hb dX5_isDigit_10 rfl (lv_at hl 0 rfl) ?_
    refine lv_iload_n hx hb dX5_isDigit_11 rfl (lv_at hl 1 rfl) ?_
    refine q_goI (q_rV hE lk_X5_32 (c_X5_byteAt l D cI cJ cZ h q tl tk tbd tp tb p0 H.size) hst [0, 1] rfl rfl rfl rfl rfl hl.1 ⟨(Nat.le_of_ble_eq_true rfl), (Nat.le_of_ble_eq_true rfl)⟩ (rest := []) rfl (Nat.le_of_ble_eq_true rfl) dX5_isDigit_12 ⟨(Nat.le_of_ble_eq_true rfl), (Nat.le_of_ble_eq_true rfl)⟩) hE hst [0, 1] rfl (fun _ => rfl) (fun (_ : Unit) => [(h, .inr (5, [.ref q, .int tl, .int tk, .int tbd, .int tp])), (q, .inl (cI, 14, .inl tb))]) (fun _ => rfl) (fun _ H locs hF hst => ?_)
    refine lv_bipush (v := 57) hx hb dX5_isDigit_15 (by decide) ?_
    refine lv_icmp_gt (tgt := 24) hx hb dX5_isDigit_17 (by decide) (fun c_17 => ?_) (fun c_17 => ?_)
    · skip
      refine lv_iconst (v := 0) hx hb dX5_isDigit_24 (by decide) ?_
      exact q_retZ hQ hE hr hk hst () (rfl) (by simp [digB, b2i, c_7, c_17]) (trivial) (rfl) dX5_isDigit_25
    · skip
      refine lv_iconst (v := 1) hx hb dX5_isDigit_20 (by decide) ?_
      refine lv_goto (tgt := 25) hx hb dX5_isDigit_21 (by decide) ?_
      exact q_retZ hQ hE hr hk hst () (rfl) (by simp [digB, b2i, c_7, c_17]) (trivial) (rfl) dX5_isDigit_25
set_option maxHeartbeats 4000000 in
set_option maxRecDepth 100000 in
theorem c_X5_kindOfLetter (l : Launch) (D : va_G) (cI cJ cZ : ClassId) (p0 : Int32) : CtI l D cI cJ cZ yX5_kindOfLetter cX5_kindOfLetter 1 (some .int) 0 [.int p0] [] (fun (_ : Unit) => kindLet p0) (fun (_ : Unit) => True) (fun (_ : Unit) => []) := by
  refine q_entI (own := RX5) rfl rfl (Nat.le_of_ble_eq_true rfl) ?_
  intro p e s m args below meth c A ls QQ hQ hE hx hb hr hk hin hA hl hst
  have hl : lv_has ls 1 [(0, .int p0)] := hl
  refine lv_iload_n hx hb dX5_kindOfLetter_0 rfl (lv_at hl 0 rfl) ?_
  by_cases c_1_97 : p0 = 97
  · skip
    refine lv_tableIn (off := 93) (tgt := 94) hx hb dX5_kindOfLetter_1 (by rw [c_1_97]; decide) (by rw [c_1_97]; decide) (by rw [c_1_97]; rfl) (by decide) ?_
    refine lv_iconst (v := 1) hx hb dX5_kindOfLetter_94 (by decide) ?_
    exact q_retI hQ hE hr hk hst () (by rw [c_1_97]; rfl) (trivial) (rfl) dX5_kindOfLetter_95
  by_cases c_1_98 : p0 = 98
  · skip
    refine lv_tableIn (off := 103) (tgt := 104) hx hb dX5_kindOfLetter_1 (by rw [c_1_98]; decide) (by rw [c_1_98]; decide) (by rw [c_1_98]; rfl) (by decide) ?_
    refine lv_iconst (v := (-1)) hx hb dX5_kindOfLetter_104 (by decide) ?_
    exact q_retI hQ hE hr hk hst () (by rw [c_1_98]; rfl) (trivial) (rfl) dX5_kindOfLetter_105
  by_cases c_1_99 : p0 = 99
  · skip
    refine lv_tableIn (off := 99) (tgt := 100) hx hb dX5_kindOfLetter_1 (by rw [c_1_99]; decide) (by rw [c_1_99]; decide) (by rw [c_1_99]; rfl) (by decide) ?_
    refine lv_iconst (v := 4) hx hb dX5_kindOfLetter_100 (by decide) ?_
    exact q_retI hQ hE hr hk hst () (by rw [c_1_99]; rfl) (trivial) (rfl) dX5_kindOfLetter_101
  by_cases c_1_100 : p0 = 100
  · skip
    refine lv_tableIn (off := 103) (tgt := 104) hx hb dX5_kindOfLetter_1 (by rw [c_1_100]; decide) (by rw [c_1_100]; decide) (by rw [c_1_100]; rfl) (by decide) ?_
    refine lv_iconst (v := (-1)) hx hb dX5_kindOfLetter_104 (by decide) ?_
    exact q_retI hQ hE hr hk hst () (by rw [c_1_100]; rfl) (trivial) (rfl) dX5_kindOfLetter_105
  by_cases c_1_101 : p0 = 101
  · skip
    refine lv_tableIn (off := 103) (tgt := 104) hx hb dX5_kindOfLetter_1 (by rw [c_1_101]; decide) (by rw [c_1_101]; decide) (by rw [c_1_101]; rfl) (by decide) ?_
    refine lv_iconst (v := (-1)) hx hb dX5_kindOfLetter_104 (by decide) ?_
    exact q_retI hQ hE hr hk hst () (by rw [c_1_101]; rfl) (trivial) (rfl) dX5_kindOfLetter_105
  by_cases c_1_102 : p0 = 102
  · skip
    refine lv_tableIn (off := 97) (tgt := 98) hx hb dX5_kindOfLetter_1 (by rw [c_1_102]; decide) (by rw [c_1_102]; decide) (by rw [c_1_102]; rfl) (by decide) ?_
    refine lv_iconst (v := 3) hx hb dX5_kindOfLetter_98 (by decide) ?_
    exact q_retI hQ hE hr hk hst () (by rw [c_1_102]; rfl) (trivial) (rfl) dX5_kindOfLetter_99
  by_cases c_1_103 : p0 = 103
  · skip
    refine lv_tableIn (off := 103) (tgt := 104) hx hb dX5_kindOfLetter_1 (by rw [c_1_103]; decide) (by rw [c_1_103]; decide) (by rw [c_1_103]; rfl) (by decide) ?_
    refine lv_iconst (v := (-1)) hx hb dX5_kindOfLetter_104 (by decide) ?_
    exact q_retI hQ hE hr hk hst () (by rw [c_1_103]; rfl) (trivial) (rfl) dX5_kindOfLetter_105
  by_cases c_1_104 : p0 = 104
  · skip
    refine lv_tableIn (off := 103) (tgt := 104) hx hb dX5_kindOfLetter_1 (by rw [c_1_104]; decide) (by rw [c_1_104]; decide) (by rw [c_1_104]; rfl) (by decide) ?_
    refine lv_iconst (v := (-1)) hx hb dX5_kindOfLetter_104 (by decide) ?_
    exact q_retI hQ hE hr hk hst () (by rw [c_1_104]; rfl) (trivial) (rfl) dX5_kindOfLetter_105
  by_cases c_1_105 : p0 = 105
  · skip
    refine lv_tableIn (off := 103) (tgt := 104) hx hb dX5_kindOfLetter_1 (by rw [c_1_105]; decide) (by rw [c_1_105]; decide) (by rw [c_1_105]; rfl) (by decide) ?_
    refine lv_iconst (v := (-1)) hx hb dX5_kindOfLetter_104 (by decide) ?_
    exact q_retI hQ hE hr hk hst () (by rw [c_1_105]; rfl) (trivial) (rfl) dX5_kindOfLetter_105
  by_cases c_1_106 : p0 = 106
  · skip
    refine lv_tableIn (off := 103) (tgt := 104) hx hb dX5_kindOfLetter_1 (by rw [c_1_106]; decide) (by rw [c_1_106]; decide) (by rw [c_1_106]; rfl) (by decide) ?_
    refine lv_iconst (v := (-1)) hx hb dX5_kindOfLetter_104 (by decide) ?_
    exact q_retI hQ hE hr hk hst () (by rw [c_1_106]; rfl) (trivial) (rfl) dX5_kindOfLetter_105
  by_cases c_1_107 : p0 = 107
  · skip
    refine lv_tableIn (off := 103) (tgt := 104) hx hb dX5_kindOfLetter_1 (by rw [c_1_107]; decide) (by rw [c_1_107]; decide) (by rw [c_1_107]; rfl) (by decide) ?_
    refine lv_iconst (v := (-1)) hx hb dX5_kindOfLetter_104 (by decide) ?_
    exact q_retI hQ hE hr hk hst () (by rw [c_1_107]; rfl) (trivial) (rfl) dX5_kindOfLetter_105
  by_cases c_1_108 : p0 = 108
  · skip
    refine lv_tableIn (off := 101) (tgt := 102) hx hb dX5_kindOfLetter_1 (by rw [c_1_108]; decide) (by rw [c_1_108]; decide) (by rw [c_1_108]; rfl) (by decide) ?_
    refine lv_iconst (v := 5) hx hb dX5_kindOfLetter_102 (by decide) ?_
    exact q_retI hQ hE hr hk hst () (by rw [c_1_108]; rfl) (trivial) (rfl) dX5_kindOfLetter_103
  by_cases c_1_109 : p0 = 109
  · skip
    refine lv_tableIn (off := 103) (tgt := 104) hx hb dX5_kindOfLetter_1 (by rw [c_1_109]; decide) (by rw [c_1_109]; decide) (by rw [c_1_109]; rfl) (by decide) ?_
    refine lv_iconst (v := (-1)) hx hb dX5_kindOfLetter_104 (by decide) ?_
    exact q_retI hQ hE hr hk hst () (by rw [c_1_109]; rfl) (trivial) (rfl) dX5_kindOfLetter_105
  by_cases c_1_110 : p0 = 110
  · skip
    refine lv_tableIn (off := 95) (tgt := 96) hx hb dX5_kindOfLetter_1 (by rw [c_1_110]; decide) (by rw [c_1_110]; decide) (by rw [c_1_110]; rfl) (by decide) ?_
    refine lv_iconst (v := 2) hx hb dX5_kindOfLetter_96 (by decide) ?_
    exact q_retI hQ hE hr hk hst () (by rw [c_1_110]; rfl) (trivial) (rfl) dX5_kindOfLetter_97
  by_cases c_1_111 : p0 = 111
  · skip
    refine lv_tableIn (off := 103) (tgt := 104) hx hb dX5_kindOfLetter_1 (by rw [c_1_111]; decide) (by rw [c_1_111]; decide) (by rw [c_1_111]; rfl) (by decide) ?_
    refine lv_iconst (v := (-1)) hx hb dX5_kindOfLetter_104 (by decide) ?_
    exact q_retI hQ hE hr hk hst () (by rw [c_1_111]; rfl) (trivial) (rfl) dX5_kindOfLetter_105
  by_cases c_1_112 : p0 = 112
  · skip
    refine lv_tableIn (off := 103) (tgt := 104) hx hb dX5_kindOfLetter_1 (by rw [c_1_112]; decide) (by rw [c_1_112]; decide) (by rw [c_1_112]; rfl) (by decide) ?_
    refine lv_iconst (v := (-1)) hx hb dX5_kindOfLetter_104 (by decide) ?_
    exact q_retI hQ hE hr hk hst () (by rw [c_1_112]; rfl) (trivial) (rfl) dX5_kindOfLetter_105
  by_cases c_1_113 : p0 = 113
  · skip
    refine lv_tableIn (off := 103) (tgt := 104) hx hb dX5_kindOfLetter_1 (by rw [c_1_113]; decide) (by rw [c_1_113]; decide) (by rw [c_1_113]; rfl) (by decide) ?_
    refine lv_iconst (v := (-1)) hx hb dX5_kindOfLetter_104 (by decide) ?_
    exact q_retI hQ hE hr hk hst () (by rw [c_1_113]; rfl) (trivial) (rfl) dX5_kindOfLetter_105
  by_cases c_1_114 : p0 = 114
  · skip
    refine lv_tableIn (off := 103) (tgt := 104) hx hb dX5_kindOfLetter_1 (by rw [c_1_114]; decide) (by rw [c_1_114]; decide) (by rw [c_1_114]; rfl) (by decide) ?_
    refine lv_iconst (v := (-1)) hx hb dX5_kindOfLetter_104 (by decide) ?_
    exact q_retI hQ hE hr hk hst () (by rw [c_1_114]; rfl) (trivial) (rfl) dX5_kindOfLetter_105
  by_cases c_1_115 : p0 = 115
  · skip
    refine lv_tableIn (off := 91) (tgt := 92) hx hb dX5_kindOfLetter_1 (by rw [c_1_115]; decide) (by rw [c_1_115]; decide) (by rw [c_1_115]; rfl) (by decide) ?_
    refine lv_iconst (v := 0) hx hb dX5_kindOfLetter_92 (by decide) ?_
    exact q_retI hQ hE hr hk hst () (by rw [c_1_115]; rfl) (trivial) (rfl) dX5_kindOfLetter_93
  refine lv_tableOut (tgt := 104) hx hb dX5_kindOfLetter_1 (by have q0 := lv_neT c_1_97 (a := 97) (by decide); have q1 := lv_neT c_1_98 (a := 98) (by decide); have q2 := lv_neT c_1_99 (a := 99) (by decide); have q3 := lv_neT c_1_100 (a := 100) (by decide); have q4 := lv_neT c_1_101 (a := 101) (by decide); have q5 := lv_neT c_1_102 (a := 102) (by decide); have q6 := lv_neT c_1_103 (a := 103) (by decide); have q7 := lv_neT c_1_104 (a := 104) (by decide); have q8 := lv_neT c_1_105 (a := 105) (by decide); have q9 := lv_neT c_1_106 (a := 106) (by decide); have q10 := lv_neT c_1_107 (a := 107) (by decide); have q11 := lv_neT c_1_108 (a := 108) (by decide); have q12 := lv_neT c_1_109 (a := 109) (by decide); have q13 := lv_neT c_1_110 (a := 110) (by decide); have q14 := lv_neT c_1_111 (a := 111) (by decide); have q15 := lv_neT c_1_112 (a := 112) (by decide); have q16 := lv_neT c_1_113 (a := 113) (by decide); have q17 := lv_neT c_1_114 (a := 114) (by decide); have q18 := lv_neT c_1_115 (a := 115) (by decide); omega) (by decide) ?_
  refine lv_iconst (v := (-1)) hx hb dX5_kindOfLetter_104 (by decide) ?_
  exact q_retI hQ hE hr hk hst () (by simp [kindLet, *]) (trivial) (rfl) dX5_kindOfLetter_105
set_option maxHeartbeats 4000000 in
set_option maxRecDepth 100000 in
theorem c_X5_endOfDigits (l : Launch) (D : va_G) (cI cJ cZ : ClassId) (h : Nat) (q : Nat) (tl : Int32) (tk : Int32) (tbd : Int32) (tp : Int32) (tb : Nat → Int32) (j0 : Nat) (n0 : Nat) (hj : j0 + n0 < 2147483648) : CtI l D cI cJ cZ yX5_endOfDigits cX5_endOfDigits 4 (some .int) 3 [.ref h, .int (nI j0), .int (nI n0)] [(h, .inr (5, [.ref q, .int tl, .int tk, .int tbd, .int tp])), (q, .inl (cI, 14, .inl tb))] (fun (_ : Unit) => nI (eod tl tb n0 j0)) (fun (_ : Unit) => True) (fun (_ : Unit) => [(h, .inr (5, [.ref q, .int tl, .int tk, .int tbd, .int tp])), (q, .inl (cI, 14, .inl tb))]) := by
  refine q_entI (own := RX5) rfl rfl (Nat.le_of_ble_eq_true rfl) ?_
  intro p e s m args below meth c A ls QQ hQ hE hx hb hr hk hin hA hl hst
  have hl : lv_has ls 4 [(0, .ref h), (1, .int (nI j0)), (2, .int (nI n0))] := hl
  have loop_2 : ∀ (n : Nat) (i : Nat), (j0 ≤ i) → (i ≤ j0 + n0) → (eod tl tb n0 j0 = eod tl tb (j0 + n0 - i) i) → (j0 + n0 - i) < n → ∀ (H : Heap) (locs : List Loc) (ls : Array Slot), SS D A s [(h, .inr (5, [.ref q, .int tl, .int tk, .int tbd, .int tp])), (q, .inl (cI, 14, .inl tb))] H locs → lv_has ls 4 [(3, .int (nI i)), (0, .ref h), (1, .int (nI j0)), (2, .int (nI n0))] → W p l e (rmN 3 0 0) s m args below meth c H locs 0 0 QQ (F0 m 2 ls []) := by
    intro n
    induction n with
    | zero =>
      intro i h0 h1 h2 hn
      exact absurd hn (Nat.not_lt_zero _)
    | succ n ih =>
      intro i h0 h1 h2 hn H locs ls hst hl
      refine lv_iload_n hx hb dX5_endOfDigits_2 rfl (lv_at hl 0 rfl) ?_
      refine lv_iload_n hx hb dX5_endOfDigits_3 rfl (lv_at hl 2 rfl) ?_
      refine lv_iload_n hx hb dX5_endOfDigits_4 rfl (lv_at hl 3 rfl) ?_
      refine lv_iadd hx hb dX5_endOfDigits_5 ?_
      refine q_top (x' := nI (j0 + n0)) (nI_add j0 n0) ?_
      refine lv_icmp_ge (tgt := 23) hx hb dX5_endOfDigits_6 (by decide) (fun c_6 => ?_) (fun c_6 => ?_)
      · skip
        have hk1 : j0 + n0 ≤ i := Nat.le_of_not_lt (fun z => nI_ge z (by omega) c_6)
        refine lv_iload_n hx hb dX5_endOfDigits_23 rfl (lv_at hl 0 rfl) ?_
        exact q_retI hQ hE hr hk hst () (by rw [h2, show j0 + n0 - i = 0 by omega, eod]) (trivial) (rfl) dX5_endOfDigits_24
      · skip
        have hk1 : i < j0 + n0 := Nat.lt_of_not_le (fun z => c_6 (nI_le z (by omega)))
        refine lv_aload_n hx hb dX5_endOfDigits_9 rfl (lv_at hl 1 rfl) ?_
        refine lv_iload_n hx hb dX5_endOfDigits_10 rfl (lv_at hl 0 rfl) ?_
        refine q_goI (q_rV hE lk_X5_50 (c_X5_isDigit l D cI cJ cZ h q tl tk tbd tp tb (nI i) H.size) hst [0, 1] rfl rfl rfl rfl rfl hl.1 ⟨(Nat.le_of_ble_eq_true rfl), (Nat.le_of_ble_eq_true rfl)⟩ (rest := []) rfl (Nat.le_of_ble_eq_true rfl) dX5_endOfDigits_11 ⟨(Nat.le_of_ble_eq_true rfl), (Nat.le_of_ble_eq_true rfl)⟩) hE hst [0, 1] rfl (fun _ => rfl) (fun (_ : Unit) => [(h, .inr (5, [.ref q, .int tl, .int tk, .int tbd, .int tp])), (q, .inl (cI, 14, .inl tb))]) (fun _ => rfl) (fun _ H locs hF hst => ?_)
        refine lv_if_eq (tgt := 23) hx hb dX5_endOfDigits_14 (by decide) (fun c_14 => ?_) (fun c_14 => ?_)
        · skip
          have c_14 := b2i_f c_14
          refine lv_iload_n hx hb dX5_endOfDigits_23 rfl (lv_at hl 0 rfl) ?_
          exact q_retI hQ hE hr hk hst () (by rw [h2, show j0 + n0 - i = (j0 + n0 - (i + 1)) + 1 by omega, eod, if_neg (by rw [c_14]; decide)]) (trivial) (rfl) dX5_endOfDigits_24
        · skip
          have c_14 := b2i_t c_14
          refine lv_iinc (v := nI (i + 1)) (lv' := [(3, .int (nI (i + 1))), (0, .ref h), (1, .int (nI j0)), (2, .int (nI n0))]) hx hb dX5_endOfDigits_17 hl (k := 0) rfl (nI_next _) (by decide) rfl (fun ls hl => ?_)
          refine lv_goto (tgt := 2) hx hb dX5_endOfDigits_20 (by decide) ?_
          exact ih (i + 1) (by omega) (by omega) (by rw [h2, show j0 + n0 - i = (j0 + n0 - (i + 1)) + 1 by omega, eod, if_pos c_14]) (by omega) _ _ _ (hst) (lv_sub hl [0, 1, 2, 3] rfl)
  refine lv_iload_n hx hb dX5_endOfDigits_0 rfl (lv_at hl 1 rfl) ?_
  refine lv_istore_n (lv' := [(3, .int (nI j0)), (0, .ref h), (1, .int (nI j0)), (2, .int (nI n0))]) hx hb dX5_endOfDigits_1 rfl hl (by decide) rfl (fun ls hl => ?_)
  exact loop_2 (n0 + 1) j0 (Nat.le_refl _) (by omega) (by rw [show j0 + n0 - j0 = n0 by omega]) (by omega) _ _ _ (hst) (lv_sub hl [0, 1, 2, 3] rfl)
set_option maxHeartbeats 4000000 in
set_option maxRecDepth 100000 in
theorem c_X5_valueOf (l : Launch) (D : va_G) (cI cJ cZ : ClassId) (h : Nat) (q : Nat) (tl : Int32) (tk : Int32) (tbd : Int32) (tp : Int32) (tb : Nat → Int32) (j0 : Nat) (n0 : Nat) (hj : j0 + n0 < 2147483648) : CtI l D cI cJ cZ yX5_valueOf cX5_valueOf 5 (some .int) 2 [.ref h, .int (nI j0), .int (nI (j0 + n0))] [(h, .inr (5, [.ref q, .int tl, .int tk, .int tbd, .int tp])), (q, .inl (cI, 14, .inl tb))] (fun (_ : Unit) => valL tl tb n0 j0 0) (fun (_ : Unit) => True) (fun (_ : Unit) => [(h, .inr (5, [.ref q, .int tl, .int tk, .int tbd, .int tp])), (q, .inl (cI, 14, .inl tb))]) := by
  refine q_entI (own := RX5) rfl rfl (Nat.le_of_ble_eq_true rfl) ?_
  intro p e s m args below meth c A ls QQ hQ hE hx hb hr hk hin hA hl hst
  have hl : lv_has ls 5 [(0, .ref h), (1, .int (nI j0)), (2, .int (nI (j0 + n0)))] := hl
  have loop_5 : ∀ (n : Nat) (i : Nat) (v : Int32), (j0 ≤ i) → (i ≤ j0 + n0) → (valL tl tb n0 j0 0 = valL tl tb (j0 + n0 - i) i v) → (j0 + n0 - i) < n → ∀ (H : Heap) (locs : List Loc) (ls : Array Slot), SS D A s [(h, .inr (5, [.ref q, .int tl, .int tk, .int tbd, .int tp])), (q, .inl (cI, 14, .inl tb))] H locs → lv_has ls 5 [(4, .int (nI i)), (3, .int v), (0, .ref h), (1, .int (nI j0)), (2, .int (nI (j0 + n0)))] → W p l e (rmN 2 0 0) s m args below meth c H locs 0 0 QQ (F0 m 5 ls []) := by
    intro n
    induction n with
    | zero =>
      intro i v h0 h1 h2 hn
      exact absurd hn (Nat.not_lt_zero _)
    | succ n ih =>
      intro i v h0 h1 h2 hn H locs ls hst hl
      refine lv_iload hx hb dX5_valueOf_5 (lv_at hl 0 rfl) ?_
      refine lv_iload_n hx hb dX5_valueOf_7 rfl (lv_at hl 4 rfl) ?_
      refine lv_icmp_ge (tgt := 32) hx hb dX5_valueOf_8 (by decide) (fun c_8 => ?_) (fun c_8 => ?_)
      · skip
        have hk1 : j0 + n0 ≤ i := Nat.le_of_not_lt (fun z => nI_ge z (by omega) c_8)
        refine lv_iload_n hx hb dX5_valueOf_32 rfl (lv_at hl 1 rfl) ?_
        exact q_retI hQ hE hr hk hst () (by rw [h2, show j0 + n0 - i = 0 by omega, valL]) (trivial) (rfl) dX5_valueOf_33
      · skip
        have hk1 : i < j0 + n0 := Nat.lt_of_not_le (fun z => c_8 (nI_le z (by omega)))
        refine lv_bipush (v := 10) hx hb dX5_valueOf_11 (by decide) ?_
        refine lv_iload_n hx hb dX5_valueOf_13 rfl (lv_at hl 1 rfl) ?_
        refine lv_imul hx hb dX5_valueOf_14 ?_
        refine lv_aload_n hx hb dX5_valueOf_15 rfl (lv_at hl 2 rfl) ?_
        refine lv_iload hx hb dX5_valueOf_16 (lv_at hl 0 rfl) ?_
        refine q_goI (q_rV hE lk_X5_32 (c_X5_byteAt l D cI cJ cZ h q tl tk tbd tp tb (nI i) H.size) hst [0, 1] rfl rfl rfl rfl rfl hl.1 ⟨(Nat.le_of_ble_eq_true rfl), (Nat.le_of_ble_eq_true rfl)⟩ (rest := [.int (10 * v)]) rfl (Nat.le_of_ble_eq_true rfl) dX5_valueOf_18 ⟨(Nat.le_of_ble_eq_true rfl), (Nat.le_of_ble_eq_true rfl)⟩) hE hst [0, 1] rfl (fun _ => rfl) (fun (_ : Unit) => [(h, .inr (5, [.ref q, .int tl, .int tk, .int tbd, .int tp])), (q, .inl (cI, 14, .inl tb))]) (fun _ => rfl) (fun _ H locs hF hst => ?_)
        refine lv_iadd hx hb dX5_valueOf_21 ?_
        refine lv_bipush (v := 48) hx hb dX5_valueOf_22 (by decide) ?_
        refine lv_isub hx hb dX5_valueOf_24 ?_
        refine lv_istore_n (lv' := [(3, .int (((10 * v) + (tapeAt tl tb (nI i))) - 48)), (4, .int (nI i)), (0, .ref h), (1, .int (nI j0)), (2, .int (nI (j0 + n0)))]) hx hb dX5_valueOf_25 rfl hl (by decide) rfl (fun ls hl => ?_)
        refine lv_iinc (v := nI (i + 1)) (lv' := [(4, .int (nI (i + 1))), (3, .int (((10 * v) + (tapeAt tl tb (nI i))) - 48)), (0, .ref h), (1, .int (nI j0)), (2, .int (nI (j0 + n0)))]) hx hb dX5_valueOf_26 hl (k := 1) rfl (nI_next _) (by decide) rfl (fun ls hl => ?_)
        refine lv_goto (tgt := 5) hx hb dX5_valueOf_29 (by decide) ?_
        exact ih (i + 1) (10 * v + tapeAt tl tb (nI i) - 48) (by omega) (by omega) (by rw [h2, show j0 + n0 - i = (j0 + n0 - (i + 1)) + 1 by omega, valL]) (by omega) _ _ _ (hst) (lv_sub hl [0, 1, 2, 3, 4] rfl)
  refine lv_iconst (v := 0) hx hb dX5_valueOf_0 (by decide) ?_
  refine lv_istore_n (lv' := [(3, .int 0), (0, .ref h), (1, .int (nI j0)), (2, .int (nI (j0 + n0)))]) hx hb dX5_valueOf_1 rfl hl (by decide) rfl (fun ls hl => ?_)
  refine lv_iload_n hx hb dX5_valueOf_2 rfl (lv_at hl 2 rfl) ?_
  refine lv_istore (lv' := [(4, .int (nI j0)), (3, .int 0), (0, .ref h), (1, .int (nI j0)), (2, .int (nI (j0 + n0)))]) hx hb dX5_valueOf_3 hl (by decide) rfl (fun ls hl => ?_)
  exact loop_5 (n0 + 1) j0 0 (Nat.le_refl _) (by omega) (by rw [show j0 + n0 - j0 = n0 by omega]) (by omega) _ _ _ (hst) (lv_sub hl [0, 1, 2, 3, 4] rfl)
set_option maxHeartbeats 4000000 in
set_option maxRecDepth 100000 in
theorem c_X5_append (l : Launch) (D : va_G) (cI cJ cZ : ClassId) (h : Nat) (q : Nat) (t0 : Nat) (n0 : Nat) (tk : Int32) (tbd : Int32) (tp : Int32) (tb : Nat → Int32) (w0 : Int64) (hn0 : n0 ≤ 8) (ht : t0 + n0 ≤ 14) : CtV l D cI cJ cZ yX5_append cX5_append 5 none 1 0 0 [.ref h, .int (nI n0), .long w0] [(h, .inr (5, [.ref q, .int (nI t0), .int tk, .int tbd, .int tp])), (q, .inl (cI, 14, .inl tb))] (fun (_ : Unit) => True) (fun (_ : Unit) => [(h, .inr (5, [.ref q, .int (nI (t0 + n0)), .int tk, .int tbd, .int tp])), (q, .inl (cI, 14, .inl (appL w0 t0 tb n0)))]) := by
  refine q_entV (own := RX5) rfl rfl (Nat.le_of_ble_eq_true rfl) ?_
  intro p e s m args below meth c A ls QQ hQ hE hx hb hr hk hin hA hl hst
  have hl : lv_has ls 5 [(0, .ref h), (1, .int (nI n0)), (2, .long w0)] := hl
  have loop_3 : ∀ (n : Nat) (i : Nat), (i ≤ n0) → (n0 - i) < n → ∀ (H : Heap) (locs : List Loc) (ls : Array Slot), SS D A s [(h, .inr (5, [.ref q, .int (nI (t0 + i)), .int tk, .int tbd, .int tp])), (q, .inl (cI, 14, .inl (appL w0 t0 tb i)))] H locs → lv_has ls 5 [(4, .int (nI i)), (0, .ref h), (1, .int (nI n0)), (2, .long w0)] → W p l e (rmN 1 0 0) s m args below meth c H locs 0 0 QQ (F0 m 3 ls []) := by
    intro n
    induction n with
    | zero =>
      intro i h1 hn
      exact absurd hn (Nat.not_lt_zero _)
    | succ n ih =>
      intro i h1 hn H locs ls hst hl
      refine lv_iload hx hb dX5_append_3 (lv_at hl 0 rfl) ?_
      refine lv_iload_n hx hb dX5_append_5 rfl (lv_at hl 2 rfl) ?_
      refine lv_icmp_ge (tgt := 55) hx hb dX5_append_6 (by decide) (fun c_6 => ?_) (fun c_6 => ?_)
      · skip
        have hk1 : i = n0 := Nat.le_antisymm h1 (Nat.le_of_not_lt (fun z => nI_ge z (by omega) c_6))
        subst hk1
        exact q_retV hQ hE hr hk hst () (trivial) (rfl) dX5_append_55
      · skip
        have hk1 : i < n0 := Nat.lt_of_not_le (fun z => c_6 (nI_le z (by omega)))
        refine lv_iload hx hb dX5_append_9 (lv_at hl 0 rfl) ?_
        refine lv_bipush (v := 8) hx hb dX5_append_11 (by decide) ?_
        refine lv_icmp_ge (tgt := 55) hx hb dX5_append_13 (by decide) (fun c_13 => ?_) (fun c_13 => ?_)
        · skip
          exact absurd c_13 (nI_ge (a := i) (b := 8) (by omega) (by decide))
        · skip
          refine lv_aload_n hx hb dX5_append_16 rfl (lv_at hl 1 rfl) ?_
          refine gf_X5_9 hE hst 0 rfl rfl dX5_append_17 ?_
          refine lv_aload_n hx hb dX5_append_20 rfl (lv_at hl 1 rfl) ?_
          refine gf_X5_15 hE hst 0 rfl rfl dX5_append_21 ?_
          refine lv_lload_n hx hb dX5_append_24 rfl (lv_at hl 3 rfl) ?_
          refine lv_bipush (v := 8) hx hb dX5_append_25 (by decide) ?_
          refine lv_iload hx hb dX5_append_27 (lv_at hl 0 rfl) ?_
          refine lv_imul hx hb dX5_append_29 ?_
          refine lv_lushr (v := (w0.toUInt64 >>> ((8 * (nI i)).toInt64.toUInt64 &&& Int64.toUInt64 63)).toInt64) hx hb dX5_append_30 rfl ?_
          refine lv_l2i (v := ((w0.toUInt64 >>> ((8 * (nI i)).toInt64.toUInt64 &&& Int64.toUInt64 63)).toInt64).toInt32) hx hb dX5_append_31 rfl ?_
          refine lv_sipush (v := 255) hx hb dX5_append_32 (by decide) ?_
          refine lv_iand hx hb dX5_append_35 ?_
          refine q_goV (q_rNS hE lk_X5_28 (c_X6_put l D cI cJ cZ q 14 (appL w0 t0 tb i) (nI (t0 + i)) ((((w0.toUInt64 >>> ((8 * (nI i)).toInt64.toUInt64 &&& Int64.toUInt64 63)).toInt64).toInt32) &&& 255) (by first | assumption | decide | omega) H.size) hst [1] rfl rfl rfl hl.1 ⟨(Nat.le_of_ble_eq_true rfl), (Nat.le_of_ble_eq_true rfl)⟩ (rest := []) rfl (Nat.le_of_ble_eq_true rfl) dX5_append_36 ⟨(Nat.le_of_ble_eq_true rfl), (Nat.le_of_ble_eq_true rfl)⟩) hE hst [1] rfl (fun _ => rfl) (fun (_ : Unit) => [(h, .inr (5, [.ref q, .int (nI (t0 + i)), .int tk, .int tbd, .int tp])), (q, .inl (cI, 14, .inl (putI 14 (appL w0 t0 tb i) (nI (t0 + i)) ((((w0.toUInt64 >>> ((8 * (nI i)).toInt64.toUInt64 &&& Int64.toUInt64 63)).toInt64).toInt32) &&& 255))))]) (fun _ => rfl) (fun _ H locs hF hst => ?_)
          have hst : SS D A s [(h, .inr (5, [.ref q, .int (nI (t0 + i)), .int tk, .int tbd, .int tp])), (q, .inl (cI, 14, .inl (appL w0 t0 tb (i + 1))))] H locs := by have h := hst; rw [putI_n (by omega) (by decide)] at h; exact h
          refine lv_aload_n hx hb dX5_append_39 rfl (lv_at hl 1 rfl) ?_
          refine lv_dup hx hb dX5_append_40 rfl ?_
          refine gf_X5_15 hE hst 0 rfl rfl dX5_append_41 ?_
          refine lv_iconst (v := 1) hx hb dX5_append_44 (by decide) ?_
          refine lv_iadd hx hb dX5_append_45 ?_
          refine q_top (x' := nI (t0 + (i + 1))) (nI_1 _) ?_
          refine pf_X5_15 hE hst 0 rfl (rfl) (rfl) (Nat.le_of_ble_eq_true rfl) [(h, .inr (5, [.ref q, .int (nI (t0 + (i + 1))), .int tk, .int tbd, .int tp])), (q, .inl (cI, 14, .inl (appL w0 t0 tb (i + 1))))] rfl dX5_append_46 (fun H locs hst => ?_)
          refine lv_iinc (v := nI (i + 1)) (lv' := [(4, .int (nI (i + 1))), (0, .ref h), (1, .int (nI n0)), (2, .long w0)]) hx hb dX5_append_49 hl (k := 0) rfl (nI_next _) (by decide) rfl (fun ls hl => ?_)
          refine lv_goto (tgt := 3) hx hb dX5_append_52 (by decide) ?_
          exact ih (i + 1) (by omega) (by omega) _ _ _ (hst) (lv_sub hl [0, 1, 2, 3] rfl)
  refine lv_iconst (v := 0) hx hb dX5_append_0 (by decide) ?_
  refine lv_istore (lv' := [(4, .int 0), (0, .ref h), (1, .int (nI n0)), (2, .long w0)]) hx hb dX5_append_1 hl (by decide) rfl (fun ls hl => ?_)
  exact loop_3 (n0 + 1) 0 (Nat.zero_le _) (by omega) _ _ _ (hst) (lv_sub hl [0, 1, 2, 3] rfl)
/-! reading a text -/
def rdK (tl : Int32) (tb : Nat → Int32) : Int32 := kindLet (tapeAt tl tb 0)
def rdE (tl : Int32) (tb : Nat → Int32) : Nat := eod tl tb 3 1
def rdB (tl : Int32) (tb : Nat → Int32) : Int32 := valL tl tb (rdE tl tb - 1) 1 0
def rdZ (tl : Int32) (tb : Nat → Int32) : Nat := eod tl tb 4 (rdE tl tb + 1)
def rdP (tl : Int32) (tb : Nat → Int32) : Int32 := valL tl tb (rdZ tl tb - (rdE tl tb + 1)) (rdE tl tb + 1) 0
def rdF (tl : Int32) (tb : Nat → Int32) : Int32 :=
  if 0 ≤ rdK tl tb then
    if nI (rdE tl tb) = 1 then 1
    else if rdB tl tb < 366 then
      if tapeAt tl tb (nI (rdE tl tb)) = 44 then
        if nI (rdZ tl tb) ≤ nI (rdE tl tb + 1) then nI (rdZ tl tb)
        else if nI (rdZ tl tb) = tl then -1 else nI (rdZ tl tb)
      else nI (rdE tl tb)
    else 1
  else 0
theorem rdE_le (tl : Int32) (tb : Nat → Int32) : 1 ≤ rdE tl tb ∧ rdE tl tb ≤ 4 := eod_le tl tb 3 1
theorem rdZ_le (tl : Int32) (tb : Nat → Int32) : rdE tl tb + 1 ≤ rdZ tl tb ∧ rdZ tl tb ≤ 9 := by
  have h := eod_le tl tb 4 (rdE tl tb + 1)
  have h2 := rdE_le tl tb
  exact ⟨h.1, by unfold rdZ; omega⟩
set_option maxHeartbeats 4000000 in
set_option maxRecDepth 100000 in
theorem c_X5_read (l : Launch) (D : va_G) (cI cJ cZ : ClassId) (h : Nat) (q : Nat) (tl : Int32) (tk : Int32) (tbd : Int32) (tp : Int32) (tb : Nat → Int32) : CtI l D cI cJ cZ yX5_read cX5_read 4 (some .int) 4 [.ref h] [(h, .inr (5, [.ref q, .int tl, .int tk, .int tbd, .int tp])), (q, .inl (cI, 14, .inl tb))] (fun (u : Int32 × Int32 × Int32) => rdF tl tb) (fun (u : Int32 × Int32 × Int32) => (rdF tl tb < 0 → u.1 = rdK tl tb ∧ u.2.1 = rdB tl tb ∧ u.2.2 = rdP tl tb)) (fun (u : Int32 × Int32 × Int32) => [(h, .inr (5, [.ref q, .int tl, .int u.1, .int u.2.1, .int u.2.2])), (q, .inl (cI, 14, .inl tb))]) := by
  refine q_entI (own := RX5) rfl rfl (Nat.le_of_ble_eq_true rfl) ?_
  intro p e s m args below meth c A ls QQ hQ hE hx hb hr hk hin hA hl hst
  have hl : lv_has ls 4 [(0, .ref h)] := hl
  have hE1 := rdE_le tl tb
  have hZ1 := rdZ_le tl tb
  refine lv_aload_n hx hb dX5_read_0 rfl (lv_at hl 0 rfl) ?_
  refine lv_aload_n hx hb dX5_read_1 rfl (lv_at hl 0 rfl) ?_
  refine lv_iconst (v := 0) hx hb dX5_read_2 (by decide) ?_
  refine q_goI (q_rV hE lk_X5_32 (c_X5_byteAt l D cI cJ cZ h q tl tk tbd tp tb 0 s.heap.size) hst [0, 1] rfl rfl rfl rfl rfl hl.1 ⟨(Nat.le_of_ble_eq_true rfl), (Nat.le_of_ble_eq_true rfl)⟩ (rest := [.ref h]) rfl (Nat.le_of_ble_eq_true rfl) dX5_read_3 ⟨(Nat.le_of_ble_eq_true rfl), (Nat.le_of_ble_eq_true rfl)⟩) hE hst [0, 1] rfl (fun _ => rfl) (fun (_ : Unit) => [(h, .inr (5, [.ref q, .int tl, .int tk, .int tbd, .int tp])), (q, .inl (cI, 14, .inl tb))]) (fun _ => rfl) (fun _ H locs hF hst => ?_)
  refine q_goI (q_rS hE lk_X5_36 (c_X5_kindOfLetter l D cI cJ cZ (tapeAt tl tb 0) H.size) hst [] rfl rfl rfl hl.1 ⟨(Nat.le_of_ble_eq_true rfl), (Nat.le_of_ble_eq_true rfl)⟩ (rest := [.ref h]) rfl (Nat.le_of_ble_eq_true rfl) dX5_read_6 ⟨(Nat.le_of_ble_eq_true rfl), (Nat.le_of_ble_eq_true rfl)⟩) hE hst [] rfl (fun _ => rfl) (fun (_ : Unit) => [(h, .inr (5, [.ref q, .int tl, .int tk, .int tbd, .int tp])), (q, .inl (cI, 14, .inl tb))]) (fun _ => rfl) (fun _ H locs hF hst => ?_)
  refine pf_X5_19 hE hst 0 rfl (rfl) (rfl) (Nat.le_of_ble_eq_true rfl) [(h, .inr (5, [.ref q, .int tl, .int (rdK tl tb), .int tbd, .int tp])), (q, .inl (cI, 14, .inl tb))] rfl dX5_read_9 (fun H locs hst => ?_)
  refine lv_aload_n hx hb dX5_read_12 rfl (lv_at hl 0 rfl) ?_
  refine gf_X5_19 hE hst 0 rfl rfl dX5_read_13 ?_
  refine lv_if_ge (tgt := 21) hx hb dX5_read_16 (by decide) (fun c_16 => ?_) (fun c_16 => ?_)
  · skip
    refine lv_aload_n hx hb dX5_read_21 rfl (lv_at hl 0 rfl) ?_
    refine lv_iconst (v := 1) hx hb dX5_read_22 (by decide) ?_
    refine lv_iconst (v := 3) hx hb dX5_read_23 (by decide) ?_
    refine q_goI (q_rV hE lk_X5_39 (c_X5_endOfDigits l D cI cJ cZ h q tl (rdK tl tb) tbd tp tb 1 3 (by first | assumption | decide | omega) H.size) hst [0, 1] rfl rfl rfl rfl rfl hl.1 ⟨(Nat.le_of_ble_eq_true rfl), (Nat.le_of_ble_eq_true rfl)⟩ (rest := []) rfl (Nat.le_of_ble_eq_true rfl) dX5_read_24 ⟨(Nat.le_of_ble_eq_true rfl), (Nat.le_of_ble_eq_true rfl)⟩) hE hst [0, 1] rfl (fun _ => rfl) (fun (_ : Unit) => [(h, .inr (5, [.ref q, .int tl, .int (rdK tl tb), .int tbd, .int tp])), (q, .inl (cI, 14, .inl tb))]) (fun _ => rfl) (fun _ H locs hF hst => ?_)
    refine lv_istore_n (lv' := [(1, .int (nI (rdE tl tb))), (0, .ref h)]) hx hb dX5_read_27 rfl hl (by decide) rfl (fun ls hl => ?_)
    refine lv_aload_n hx hb dX5_read_28 rfl (lv_at hl 1 rfl) ?_
    refine lv_aload_n hx hb dX5_read_29 rfl (lv_at hl 1 rfl) ?_
    refine lv_iconst (v := 1) hx hb dX5_read_30 (by decide) ?_
    refine lv_iload_n hx hb dX5_read_31 rfl (lv_at hl 0 rfl) ?_
    refine q_top (x' := nI (1 + (rdE tl tb - 1))) (by rw [show 1 + (rdE tl tb - 1) = rdE tl tb by omega]) ?_
    refine q_goI (q_rV hE lk_X5_43 (c_X5_valueOf l D cI cJ cZ h q tl (rdK tl tb) tbd tp tb 1 (rdE tl tb - 1) (by first | assumption | decide | omega) H.size) hst [0, 1] rfl rfl rfl rfl rfl hl.1 ⟨(Nat.le_of_ble_eq_true rfl), (Nat.le_of_ble_eq_true rfl)⟩ (rest := [.ref h]) rfl (Nat.le_of_ble_eq_true rfl) dX5_read_32 ⟨(Nat.le_of_ble_eq_true rfl), (Nat.le_of_ble_eq_true rfl)⟩) hE hst [0, 1] rfl (fun _ => rfl) (fun (_ : Unit) => [(h, .inr (5, [.ref q, .int tl, .int (rdK tl tb), .int tbd, .int tp])), (q, .inl (cI, 14, .inl tb))]) (fun _ => rfl) (fun _ H locs hF hst => ?_)
    refine pf_X5_22 hE hst 0 rfl (rfl) (rfl) (Nat.le_of_ble_eq_true rfl) [(h, .inr (5, [.ref q, .int tl, .int (rdK tl tb), .int (rdB tl tb), .int tp])), (q, .inl (cI, 14, .inl tb))] rfl dX5_read_35 (fun H locs hst => ?_)
    refine lv_iload_n hx hb dX5_read_38 rfl (lv_at hl 0 rfl) ?_
    refine lv_iconst (v := 1) hx hb dX5_read_39 (by decide) ?_
    refine lv_icmp_eq (tgt := 53) hx hb dX5_read_40 (by decide) (fun c_40 => ?_) (fun c_40 => ?_)
    · skip
      refine lv_iconst (v := 1) hx hb dX5_read_53 (by decide) ?_
      exact q_retI hQ hE hr hk hst ((rdK tl tb), rdB tl tb, tp) (by rw [rdF, if_pos c_16, if_pos c_40]) (fun hz => absurd hz (by rw [rdF, if_pos c_16, if_pos c_40]; decide)) (rfl) dX5_read_54
    · skip
      refine lv_aload_n hx hb dX5_read_43 rfl (lv_at hl 1 rfl) ?_
      refine gf_X5_22 hE hst 0 rfl rfl dX5_read_44 ?_
      refine lv_sipush (v := 366) hx hb dX5_read_47 (by decide) ?_
      refine lv_icmp_lt (tgt := 55) hx hb dX5_read_50 (by decide) (fun c_50 => ?_) (fun c_50 => ?_)
      · skip
        refine lv_aload_n hx hb dX5_read_55 rfl (lv_at hl 1 rfl) ?_
        refine lv_iload_n hx hb dX5_read_56 rfl (lv_at hl 0 rfl) ?_
        refine q_goI (q_rV hE lk_X5_32 (c_X5_byteAt l D cI cJ cZ h q tl (rdK tl tb) (rdB tl tb) tp tb (nI (rdE tl tb)) H.size) hst [0, 1] rfl rfl rfl rfl rfl hl.1 ⟨(Nat.le_of_ble_eq_true rfl), (Nat.le_of_ble_eq_true rfl)⟩ (rest := []) rfl (Nat.le_of_ble_eq_true rfl) dX5_read_57 ⟨(Nat.le_of_ble_eq_true rfl), (Nat.le_of_ble_eq_true rfl)⟩) hE hst [0, 1] rfl (fun _ => rfl) (fun (_ : Unit) => [(h, .inr (5, [.ref q, .int tl, .int (rdK tl tb), .int (rdB tl tb), .int tp])), (q, .inl (cI, 14, .inl tb))]) (fun _ => rfl) (fun _ H locs hF hst => ?_)
        refine lv_bipush (v := 44) hx hb dX5_read_60 (by decide) ?_
        refine lv_icmp_eq (tgt := 67) hx hb dX5_read_62 (by decide) (fun c_62 => ?_) (fun c_62 => ?_)
        · skip
          refine lv_iload_n hx hb dX5_read_67 rfl (lv_at hl 0 rfl) ?_
          refine lv_iconst (v := 1) hx hb dX5_read_68 (by decide) ?_
          refine lv_iadd hx hb dX5_read_69 ?_
          refine q_top (x' := nI (rdE tl tb + 1)) (nI_1 _) ?_
          refine lv_istore_n (lv' := [(2, .int (nI (rdE tl tb + 1))), (1, .int (nI (rdE tl tb))), (0, .ref h)]) hx hb dX5_read_70 rfl hl (by decide) rfl (fun ls hl => ?_)
          refine lv_aload_n hx hb dX5_read_71 rfl (lv_at hl 2 rfl) ?_
          refine lv_iload_n hx hb dX5_read_72 rfl (lv_at hl 0 rfl) ?_
          refine lv_iconst (v := 4) hx hb dX5_read_73 (by decide) ?_
          refine q_goI (q_rV hE lk_X5_39 (c_X5_endOfDigits l D cI cJ cZ h q tl (rdK tl tb) (rdB tl tb) tp tb (rdE tl tb + 1) 4 (by omega) H.size) hst [0, 1] rfl rfl rfl rfl rfl hl.1 ⟨(Nat.le_of_ble_eq_true rfl), (Nat.le_of_ble_eq_true rfl)⟩ (rest := []) rfl (Nat.le_of_ble_eq_true rfl) dX5_read_74 ⟨(Nat.le_of_ble_eq_true rfl), (Nat.le_of_ble_eq_true rfl)⟩) hE hst [0, 1] rfl (fun _ => rfl) (fun (_ : Unit) => [(h, .inr (5, [.ref q, .int tl, .int (rdK tl tb), .int (rdB tl tb), .int tp])), (q, .inl (cI, 14, .inl tb))]) (fun _ => rfl) (fun _ H locs hF hst => ?_)
          refine lv_istore_n (lv' := [(3, .int (nI (rdZ tl tb))), (2, .int (nI (rdE tl tb + 1))), (1, .int (nI (rdE tl tb))), (0, .ref h)]) hx hb dX5_read_77 rfl hl (by decide) rfl (fun ls hl => ?_)
          refine lv_aload_n hx hb dX5_read_78 rfl (lv_at hl 3 rfl) ?_
          refine lv_aload_n hx hb dX5_read_79 rfl (lv_at hl 3 rfl) ?_
          refine lv_iload_n hx hb dX5_read_80 rfl (lv_at hl 1 rfl) ?_
          refine lv_iload_n hx hb dX5_read_81 rfl (lv_at hl 0 rfl) ?_
          refine q_top (x' := nI (rdE tl tb + 1 + (rdZ tl tb - (rdE tl tb + 1)))) (by rw [show rdE tl tb + 1 + (rdZ tl tb - (rdE tl tb + 1)) = rdZ tl tb by omega]) ?_
          refine q_goI (q_rV hE lk_X5_43 (c_X5_valueOf l D cI cJ cZ h q tl (rdK tl tb) (rdB tl tb) tp tb (rdE tl tb + 1) (rdZ tl tb - (rdE tl tb + 1)) (by omega) H.size) hst [0, 1] rfl rfl rfl rfl rfl hl.1 ⟨(Nat.le_of_ble_eq_true rfl), (Nat.le_of_ble_eq_true rfl)⟩ (rest := [.ref h]) rfl (Nat.le_of_ble_eq_true rfl) dX5_read_82 ⟨(Nat.le_of_ble_eq_true rfl), (Nat.le_of_ble_eq_true rfl)⟩) hE hst [0, 1] rfl (fun _ => rfl) (fun (_ : Unit) => [(h, .inr (5, [.ref q, .int tl, .int (rdK tl tb), .int (rdB tl tb), .int tp])), (q, .inl (cI, 14, .inl tb))]) (fun _ => rfl) (fun _ H locs hF hst => ?_)
          refine pf_X5_25 hE hst 0 rfl (rfl) (rfl) (Nat.le_of_ble_eq_true rfl) [(h, .inr (5, [.ref q, .int tl, .int (rdK tl tb), .int (rdB tl tb), .int (rdP tl tb)])), (q, .inl (cI, 14, .inl tb))] rfl dX5_read_85 (fun H locs hst => ?_)
          refine lv_iload_n hx hb dX5_read_88 rfl (lv_at hl 0 rfl) ?_
          refine lv_iload_n hx hb dX5_read_89 rfl (lv_at hl 1 rfl) ?_
          refine lv_icmp_le (tgt := 105) hx hb dX5_read_90 (by decide) (fun c_90 => ?_) (fun c_90 => ?_)
          · skip
            refine lv_iload_n hx hb dX5_read_105 rfl (lv_at hl 0 rfl) ?_
            exact q_retI hQ hE hr hk hst ((rdK tl tb), (rdB tl tb), rdP tl tb) (by rw [rdF, if_pos c_16, if_neg c_40, if_pos c_50, if_pos c_62, if_pos c_90]) (fun hz => absurd hz (by rw [rdF, if_pos c_16, if_neg c_40, if_pos c_50, if_pos c_62, if_pos c_90]; exact nI_pos (by omega))) (rfl) dX5_read_106
          · skip
            refine lv_iload_n hx hb dX5_read_93 rfl (lv_at hl 0 rfl) ?_
            refine lv_aload_n hx hb dX5_read_94 rfl (lv_at hl 3 rfl) ?_
            refine gf_X5_15 hE hst 0 rfl rfl dX5_read_95 ?_
            refine lv_icmp_ne (tgt := 105) hx hb dX5_read_98 (by decide) (fun c_98 => ?_) (fun c_98 => ?_)
            · skip
              refine lv_iload_n hx hb dX5_read_105 rfl (lv_at hl 0 rfl) ?_
              exact q_retI hQ hE hr hk hst ((rdK tl tb), (rdB tl tb), rdP tl tb) (by rw [rdF, if_pos c_16, if_neg c_40, if_pos c_50, if_pos c_62, if_neg c_90, if_neg c_98]) (fun hz => absurd hz (by rw [rdF, if_pos c_16, if_neg c_40, if_pos c_50, if_pos c_62, if_neg c_90, if_neg c_98]; exact nI_pos (by omega))) (rfl) dX5_read_106
            · skip
              refine lv_iconst (v := (-1)) hx hb dX5_read_101 (by decide) ?_
              refine lv_goto (tgt := 106) hx hb dX5_read_102 (by decide) ?_
              exact q_retI hQ hE hr hk hst ((rdK tl tb), (rdB tl tb), rdP tl tb) (by rw [rdF, if_pos c_16, if_neg c_40, if_pos c_50, if_pos c_62, if_neg c_90, if_pos c_98]) (fun _ => ⟨rfl, rfl, rfl⟩) (rfl) dX5_read_106
        · skip
          refine lv_iload_n hx hb dX5_read_65 rfl (lv_at hl 0 rfl) ?_
          exact q_retI hQ hE hr hk hst ((rdK tl tb), (rdB tl tb), tp) (by rw [rdF, if_pos c_16, if_neg c_40, if_pos c_50, if_neg c_62]) (fun hz => absurd hz (by rw [rdF, if_pos c_16, if_neg c_40, if_pos c_50, if_neg c_62]; exact nI_pos (by omega))) (rfl) dX5_read_66
      · skip
        refine lv_iconst (v := 1) hx hb dX5_read_53 (by decide) ?_
        exact q_retI hQ hE hr hk hst ((rdK tl tb), rdB tl tb, tp) (by rw [rdF, if_pos c_16, if_neg c_40, if_neg c_50]) (fun hz => absurd hz (by rw [rdF, if_pos c_16, if_neg c_40, if_neg c_50]; decide)) (rfl) dX5_read_54
  · skip
    refine lv_iconst (v := 0) hx hb dX5_read_19 (by decide) ?_
    exact q_retI hQ hE hr hk hst (rdK tl tb, tbd, tp) (by rw [rdF, if_neg c_16]) (fun hz => absurd hz (by rw [rdF, if_neg c_16]; decide)) (rfl) dX5_read_20
end
