section
-- ===== PART A: goes FIRST, ahead of the names: the tables' words, and 'selects' of the private methods out of them =====
/-- a private method of a class that the tables say can be made, by its rows of tables_1 -/
def lw_okq (q : MethodName × Nat) : Prop := (q.1.cls ≠ "java/lang/invoke/MethodHandle" ∧ q.1.cls ≠ "java/lang/invoke/VarHandle") ∧ Cond.instantiable q.1.cls q.2 ∈ tables_1 ∧ Cond.privateMethod q.1 ∈ tables_1 ∧ Cond.instanceMethod q.1 ∈ tables_1
theorem lw_p0 : lw_okq (⟨"GlassJar$Jar", "draw", "()V"⟩, 10) := ⟨⟨by decide +kernel, by decide +kernel⟩, List.mem_of_getElem? (i := 55) (by decide +kernel), List.mem_of_getElem? (i := 61) (by decide +kernel), List.mem_of_getElem? (i := 62) (by decide +kernel)⟩
theorem lw_p1 : lw_okq (⟨"GlassJar$Jar", "layDays", "()V"⟩, 10) := ⟨⟨by decide +kernel, by decide +kernel⟩, List.mem_of_getElem? (i := 55) (by decide +kernel), List.mem_of_getElem? (i := 65) (by decide +kernel), List.mem_of_getElem? (i := 66) (by decide +kernel)⟩
theorem lw_p2 : lw_okq (⟨"GlassJar$Jar", "shakeRow", "()V"⟩, 10) := ⟨⟨by decide +kernel, by decide +kernel⟩, List.mem_of_getElem? (i := 55) (by decide +kernel), List.mem_of_getElem? (i := 72) (by decide +kernel), List.mem_of_getElem? (i := 73) (by decide +kernel)⟩
theorem lw_p3 : lw_okq (⟨"GlassJar$Jar", "lot", "(I)I"⟩, 10) := ⟨⟨by decide +kernel, by decide +kernel⟩, List.mem_of_getElem? (i := 55) (by decide +kernel), List.mem_of_getElem? (i := 76) (by decide +kernel), List.mem_of_getElem? (i := 77) (by decide +kernel)⟩
theorem lw_p4 : lw_okq (⟨"GlassJar$Jar", "swap", "(II)V"⟩, 10) := ⟨⟨by decide +kernel, by decide +kernel⟩, List.mem_of_getElem? (i := 55) (by decide +kernel), List.mem_of_getElem? (i := 89) (by decide +kernel), List.mem_of_getElem? (i := 90) (by decide +kernel)⟩
theorem lw_p5 : lw_okq (⟨"GlassJar$Jar", "turnRow", "()V"⟩, 10) := ⟨⟨by decide +kernel, by decide +kernel⟩, List.mem_of_getElem? (i := 55) (by decide +kernel), List.mem_of_getElem? (i := 96) (by decide +kernel), List.mem_of_getElem? (i := 97) (by decide +kernel)⟩
theorem lw_p6 : lw_okq (⟨"GlassJar$Jar", "drawRow", "()V"⟩, 10) := ⟨⟨by decide +kernel, by decide +kernel⟩, List.mem_of_getElem? (i := 55) (by decide +kernel), List.mem_of_getElem? (i := 100) (by decide +kernel), List.mem_of_getElem? (i := 101) (by decide +kernel)⟩
theorem lw_p7 : lw_okq (⟨"GlassJar$Jar", "closeGap", "(II)V"⟩, 10) := ⟨⟨by decide +kernel, by decide +kernel⟩, List.mem_of_getElem? (i := 55) (by decide +kernel), List.mem_of_getElem? (i := 104) (by decide +kernel), List.mem_of_getElem? (i := 105) (by decide +kernel)⟩
theorem lw_p8 : lw_okq (⟨"GlassJar$Tape", "hasRoomFor", "(I)Z"⟩, 5) := ⟨⟨by decide +kernel, by decide +kernel⟩, List.mem_of_getElem? (i := 22) (by decide +kernel), List.mem_of_getElem? (i := 261) (by decide +kernel), List.mem_of_getElem? (i := 262) (by decide +kernel)⟩
theorem lw_p9 : lw_okq (⟨"GlassJar", "refuse", "(I)I"⟩, 6) := ⟨⟨by decide +kernel, by decide +kernel⟩, List.mem_of_getElem? (i := 14) (by decide +kernel), List.mem_of_getElem? (i := 268) (by decide +kernel), List.mem_of_getElem? (i := 269) (by decide +kernel)⟩
theorem lw_p10 : lw_okq (⟨"GlassJar$Tape", "append", "(IJ)V"⟩, 5) := ⟨⟨by decide +kernel, by decide +kernel⟩, List.mem_of_getElem? (i := 22) (by decide +kernel), List.mem_of_getElem? (i := 274) (by decide +kernel), List.mem_of_getElem? (i := 275) (by decide +kernel)⟩
theorem lw_p11 : lw_okq (⟨"GlassJar$Tape", "read", "()I"⟩, 5) := ⟨⟨by decide +kernel, by decide +kernel⟩, List.mem_of_getElem? (i := 22) (by decide +kernel), List.mem_of_getElem? (i := 283) (by decide +kernel), List.mem_of_getElem? (i := 284) (by decide +kernel)⟩
theorem lw_p12 : lw_okq (⟨"GlassJar$Tape", "byteAt", "(I)I"⟩, 5) := ⟨⟨by decide +kernel, by decide +kernel⟩, List.mem_of_getElem? (i := 22) (by decide +kernel), List.mem_of_getElem? (i := 287) (by decide +kernel), List.mem_of_getElem? (i := 288) (by decide +kernel)⟩
theorem lw_p13 : lw_okq (⟨"GlassJar$Tape", "endOfDigits", "(II)I"⟩, 5) := ⟨⟨by decide +kernel, by decide +kernel⟩, List.mem_of_getElem? (i := 22) (by decide +kernel), List.mem_of_getElem? (i := 295) (by decide +kernel), List.mem_of_getElem? (i := 296) (by decide +kernel)⟩
theorem lw_p14 : lw_okq (⟨"GlassJar$Tape", "isDigit", "(I)Z"⟩, 5) := ⟨⟨by decide +kernel, by decide +kernel⟩, List.mem_of_getElem? (i := 22) (by decide +kernel), List.mem_of_getElem? (i := 299) (by decide +kernel), List.mem_of_getElem? (i := 300) (by decide +kernel)⟩
theorem lw_p15 : lw_okq (⟨"GlassJar$Tape", "valueOf", "(II)I"⟩, 5) := ⟨⟨by decide +kernel, by decide +kernel⟩, List.mem_of_getElem? (i := 22) (by decide +kernel), List.mem_of_getElem? (i := 303) (by decide +kernel), List.mem_of_getElem? (i := 304) (by decide +kernel)⟩
def lw_privs_1 : List (MethodName × Nat) := [(⟨"GlassJar$Jar", "draw", "()V"⟩, 10), (⟨"GlassJar$Jar", "layDays", "()V"⟩, 10), (⟨"GlassJar$Jar", "shakeRow", "()V"⟩, 10), (⟨"GlassJar$Jar", "lot", "(I)I"⟩, 10), (⟨"GlassJar$Jar", "swap", "(II)V"⟩, 10), (⟨"GlassJar$Jar", "turnRow", "()V"⟩, 10), (⟨"GlassJar$Jar", "drawRow", "()V"⟩, 10), (⟨"GlassJar$Jar", "closeGap", "(II)V"⟩, 10), (⟨"GlassJar$Tape", "hasRoomFor", "(I)Z"⟩, 5), (⟨"GlassJar", "refuse", "(I)I"⟩, 6), (⟨"GlassJar$Tape", "append", "(IJ)V"⟩, 5), (⟨"GlassJar$Tape", "read", "()I"⟩, 5), (⟨"GlassJar$Tape", "byteAt", "(I)I"⟩, 5), (⟨"GlassJar$Tape", "endOfDigits", "(II)I"⟩, 5), (⟨"GlassJar$Tape", "isDigit", "(I)Z"⟩, 5), (⟨"GlassJar$Tape", "valueOf", "(II)I"⟩, 5)]
theorem lw_r1 : ∀ q ∈ lw_privs_1, lw_okq q := List.forall_mem_cons.mpr ⟨lw_p0, List.forall_mem_cons.mpr ⟨lw_p1, List.forall_mem_cons.mpr ⟨lw_p2, List.forall_mem_cons.mpr ⟨lw_p3, List.forall_mem_cons.mpr ⟨lw_p4, List.forall_mem_cons.mpr ⟨lw_p5, List.forall_mem_cons.mpr ⟨lw_p6, List.forall_mem_cons.mpr ⟨lw_p7, List.forall_mem_cons.mpr ⟨lw_p8, List.forall_mem_cons.mpr ⟨lw_p9, List.forall_mem_cons.mpr ⟨lw_p10, List.forall_mem_cons.mpr ⟨lw_p11, List.forall_mem_cons.mpr ⟨lw_p12, List.forall_mem_cons.mpr ⟨lw_p13, List.forall_mem_cons.mpr ⟨lw_p14, List.forall_mem_cons.mpr ⟨lw_p15, fun _ h => absurd h List.not_mem_nil⟩⟩⟩⟩⟩⟩⟩⟩⟩⟩⟩⟩⟩⟩⟩⟩
theorem lw_p16 : lw_okq (⟨"GlassJar$Tape", "empty", "()V"⟩, 5) := ⟨⟨by decide +kernel, by decide +kernel⟩, List.mem_of_getElem? (i := 22) (by decide +kernel), List.mem_of_getElem? (i := 307) (by decide +kernel), List.mem_of_getElem? (i := 308) (by decide +kernel)⟩
theorem lw_p17 : lw_okq (⟨"GlassJar$Men", "enrol", "(III)I"⟩, 4) := ⟨⟨by decide +kernel, by decide +kernel⟩, List.mem_of_getElem? (i := 143) (by decide +kernel), List.mem_of_getElem? (i := 311) (by decide +kernel), List.mem_of_getElem? (i := 312) (by decide +kernel)⟩
theorem lw_p18 : lw_okq (⟨"GlassJar$Lottery", "jarAt", "(I)LGlassJar$Jar;"⟩, 8) := ⟨⟨by decide +kernel, by decide +kernel⟩, List.mem_of_getElem? (i := 49) (by decide +kernel), List.mem_of_getElem? (i := 323) (by decide +kernel), List.mem_of_getElem? (i := 324) (by decide +kernel)⟩
theorem lw_p19 : lw_okq (⟨"GlassJar$Jar", "prepare", "(IIII)V"⟩, 10) := ⟨⟨by decide +kernel, by decide +kernel⟩, List.mem_of_getElem? (i := 55) (by decide +kernel), List.mem_of_getElem? (i := 327) (by decide +kernel), List.mem_of_getElem? (i := 328) (by decide +kernel)⟩
theorem lw_p20 : lw_okq (⟨"GlassJar$Jar", "turnOver", "(Z)Z"⟩, 10) := ⟨⟨by decide +kernel, by decide +kernel⟩, List.mem_of_getElem? (i := 55) (by decide +kernel), List.mem_of_getElem? (i := 335) (by decide +kernel), List.mem_of_getElem? (i := 336) (by decide +kernel)⟩
theorem lw_p21 : lw_okq (⟨"GlassJar$Jar", "numberAt", "(I)I"⟩, 10) := ⟨⟨by decide +kernel, by decide +kernel⟩, List.mem_of_getElem? (i := 55) (by decide +kernel), List.mem_of_getElem? (i := 343) (by decide +kernel), List.mem_of_getElem? (i := 344) (by decide +kernel)⟩
theorem lw_p22 : lw_okq (⟨"GlassJar$Jar", "dayAt", "(I)I"⟩, 10) := ⟨⟨by decide +kernel, by decide +kernel⟩, List.mem_of_getElem? (i := 55) (by decide +kernel), List.mem_of_getElem? (i := 351) (by decide +kernel), List.mem_of_getElem? (i := 352) (by decide +kernel)⟩
theorem lw_p23 : lw_okq (⟨"GlassJar", "refuseLong", "(I)J"⟩, 6) := ⟨⟨by decide +kernel, by decide +kernel⟩, List.mem_of_getElem? (i := 14) (by decide +kernel), List.mem_of_getElem? (i := 365) (by decide +kernel), List.mem_of_getElem? (i := 366) (by decide +kernel)⟩
theorem lw_p24 : lw_okq (⟨"GlassJar$Jar", "monthSum", "(I)I"⟩, 10) := ⟨⟨by decide +kernel, by decide +kernel⟩, List.mem_of_getElem? (i := 55) (by decide +kernel), List.mem_of_getElem? (i := 370) (by decide +kernel), List.mem_of_getElem? (i := 371) (by decide +kernel)⟩
theorem lw_p25 : lw_okq (⟨"GlassJar$Ratio", "become", "(JJ)V"⟩, 2) := ⟨⟨by decide +kernel, by decide +kernel⟩, List.mem_of_getElem? (i := 192) (by decide +kernel), List.mem_of_getElem? (i := 381) (by decide +kernel), List.mem_of_getElem? (i := 382) (by decide +kernel)⟩
theorem lw_p26 : lw_okq (⟨"GlassJar$Ratio", "partAt", "(I)J"⟩, 2) := ⟨⟨by decide +kernel, by decide +kernel⟩, List.mem_of_getElem? (i := 192) (by decide +kernel), List.mem_of_getElem? (i := 392) (by decide +kernel), List.mem_of_getElem? (i := 393) (by decide +kernel)⟩
theorem lw_p27 : lw_okq (⟨"GlassJar$Jar", "leaning", "()J"⟩, 10) := ⟨⟨by decide +kernel, by decide +kernel⟩, List.mem_of_getElem? (i := 55) (by decide +kernel), List.mem_of_getElem? (i := 400) (by decide +kernel), List.mem_of_getElem? (i := 401) (by decide +kernel)⟩
theorem lw_p28 : lw_okq (⟨"GlassJar$Jar", "worstMonth", "()I"⟩, 10) := ⟨⟨by decide +kernel, by decide +kernel⟩, List.mem_of_getElem? (i := 55) (by decide +kernel), List.mem_of_getElem? (i := 411) (by decide +kernel), List.mem_of_getElem? (i := 412) (by decide +kernel)⟩
theorem lw_p29 : lw_okq (⟨"GlassJar$Jar", "monthDistance", "(I)J"⟩, 10) := ⟨⟨by decide +kernel, by decide +kernel⟩, List.mem_of_getElem? (i := 55) (by decide +kernel), List.mem_of_getElem? (i := 415) (by decide +kernel), List.mem_of_getElem? (i := 416) (by decide +kernel)⟩
theorem lw_p30 : lw_okq (⟨"GlassJar$Jar", "turnedPairs", "()I"⟩, 10) := ⟨⟨by decide +kernel, by decide +kernel⟩, List.mem_of_getElem? (i := 55) (by decide +kernel), List.mem_of_getElem? (i := 426) (by decide +kernel), List.mem_of_getElem? (i := 427) (by decide +kernel)⟩
theorem lw_p31 : lw_okq (⟨"GlassJar$Jar", "seenAbove", "(I)I"⟩, 10) := ⟨⟨by decide +kernel, by decide +kernel⟩, List.mem_of_getElem? (i := 55) (by decide +kernel), List.mem_of_getElem? (i := 433) (by decide +kernel), List.mem_of_getElem? (i := 434) (by decide +kernel)⟩
def lw_privs_2 : List (MethodName × Nat) := [(⟨"GlassJar$Tape", "empty", "()V"⟩, 5), (⟨"GlassJar$Men", "enrol", "(III)I"⟩, 4), (⟨"GlassJar$Lottery", "jarAt", "(I)LGlassJar$Jar;"⟩, 8), (⟨"GlassJar$Jar", "prepare", "(IIII)V"⟩, 10), (⟨"GlassJar$Jar", "turnOver", "(Z)Z"⟩, 10), (⟨"GlassJar$Jar", "numberAt", "(I)I"⟩, 10), (⟨"GlassJar$Jar", "dayAt", "(I)I"⟩, 10), (⟨"GlassJar", "refuseLong", "(I)J"⟩, 6), (⟨"GlassJar$Jar", "monthSum", "(I)I"⟩, 10), (⟨"GlassJar$Ratio", "become", "(JJ)V"⟩, 2), (⟨"GlassJar$Ratio", "partAt", "(I)J"⟩, 2), (⟨"GlassJar$Jar", "leaning", "()J"⟩, 10), (⟨"GlassJar$Jar", "worstMonth", "()I"⟩, 10), (⟨"GlassJar$Jar", "monthDistance", "(I)J"⟩, 10), (⟨"GlassJar$Jar", "turnedPairs", "()I"⟩, 10), (⟨"GlassJar$Jar", "seenAbove", "(I)I"⟩, 10)]
theorem lw_r2 : ∀ q ∈ lw_privs_2, lw_okq q := List.forall_mem_cons.mpr ⟨lw_p16, List.forall_mem_cons.mpr ⟨lw_p17, List.forall_mem_cons.mpr ⟨lw_p18, List.forall_mem_cons.mpr ⟨lw_p19, List.forall_mem_cons.mpr ⟨lw_p20, List.forall_mem_cons.mpr ⟨lw_p21, List.forall_mem_cons.mpr ⟨lw_p22, List.forall_mem_cons.mpr ⟨lw_p23, List.forall_mem_cons.mpr ⟨lw_p24, List.forall_mem_cons.mpr ⟨lw_p25, List.forall_mem_cons.mpr ⟨lw_p26, List.forall_mem_cons.mpr ⟨lw_p27, List.forall_mem_cons.mpr ⟨lw_p28, List.forall_mem_cons.mpr ⟨lw_p29, List.forall_mem_cons.mpr ⟨lw_p30, List.forall_mem_cons.mpr ⟨lw_p31, fun _ h => absurd h List.not_mem_nil⟩⟩⟩⟩⟩⟩⟩⟩⟩⟩⟩⟩⟩⟩⟩⟩
theorem lw_p32 : lw_okq (⟨"GlassJar$Jar", "markSeen", "(I)V"⟩, 10) := ⟨⟨by decide +kernel, by decide +kernel⟩, List.mem_of_getElem? (i := 55) (by decide +kernel), List.mem_of_getElem? (i := 443) (by decide +kernel), List.mem_of_getElem? (i := 444) (by decide +kernel)⟩
theorem lw_p33 : lw_okq (⟨"GlassJar", "isMan", "(I)Z"⟩, 6) := ⟨⟨by decide +kernel, by decide +kernel⟩, List.mem_of_getElem? (i := 14) (by decide +kernel), List.mem_of_getElem? (i := 451) (by decide +kernel), List.mem_of_getElem? (i := 452) (by decide +kernel)⟩
theorem lw_p34 : lw_okq (⟨"GlassJar$Men", "kindAt", "(I)I"⟩, 4) := ⟨⟨by decide +kernel, by decide +kernel⟩, List.mem_of_getElem? (i := 143) (by decide +kernel), List.mem_of_getElem? (i := 455) (by decide +kernel), List.mem_of_getElem? (i := 456) (by decide +kernel)⟩
theorem lw_p35 : lw_okq (⟨"GlassJar$Men", "birthdayAt", "(I)I"⟩, 4) := ⟨⟨by decide +kernel, by decide +kernel⟩, List.mem_of_getElem? (i := 143) (by decide +kernel), List.mem_of_getElem? (i := 460) (by decide +kernel), List.mem_of_getElem? (i := 461) (by decide +kernel)⟩
theorem lw_p36 : lw_okq (⟨"GlassJar$Men", "payAt", "(I)I"⟩, 4) := ⟨⟨by decide +kernel, by decide +kernel⟩, List.mem_of_getElem? (i := 143) (by decide +kernel), List.mem_of_getElem? (i := 464) (by decide +kernel), List.mem_of_getElem? (i := 465) (by decide +kernel)⟩
theorem lw_p37 : lw_okq (⟨"GlassJar$Lottery", "isCalledBy", "(LGlassJar$Jar;I)Z"⟩, 8) := ⟨⟨by decide +kernel, by decide +kernel⟩, List.mem_of_getElem? (i := 49) (by decide +kernel), List.mem_of_getElem? (i := 482) (by decide +kernel), List.mem_of_getElem? (i := 483) (by decide +kernel)⟩
theorem lw_p38 : lw_okq (⟨"GlassJar$Lottery", "numberOfMan", "(LGlassJar$Jar;I)I"⟩, 8) := ⟨⟨by decide +kernel, by decide +kernel⟩, List.mem_of_getElem? (i := 49) (by decide +kernel), List.mem_of_getElem? (i := 486) (by decide +kernel), List.mem_of_getElem? (i := 487) (by decide +kernel)⟩
theorem lw_p39 : lw_okq (⟨"GlassJar$Lottery", "isCalled", "(I)Z"⟩, 8) := ⟨⟨by decide +kernel, by decide +kernel⟩, List.mem_of_getElem? (i := 49) (by decide +kernel), List.mem_of_getElem? (i := 492) (by decide +kernel), List.mem_of_getElem? (i := 493) (by decide +kernel)⟩
theorem lw_p40 : lw_okq (⟨"GlassJar$Lottery", "serviceOf", "(LGlassJar$Jar;I)I"⟩, 8) := ⟨⟨by decide +kernel, by decide +kernel⟩, List.mem_of_getElem? (i := 49) (by decide +kernel), List.mem_of_getElem? (i := 500) (by decide +kernel), List.mem_of_getElem? (i := 501) (by decide +kernel)⟩
theorem lw_p41 : lw_okq (⟨"GlassJar$Lottery", "serviceBy", "(II)I"⟩, 8) := ⟨⟨by decide +kernel, by decide +kernel⟩, List.mem_of_getElem? (i := 49) (by decide +kernel), List.mem_of_getElem? (i := 505) (by decide +kernel), List.mem_of_getElem? (i := 506) (by decide +kernel)⟩
theorem lw_p42 : lw_okq (⟨"GlassJar$Lottery", "wageOf", "(LGlassJar$Jar;II)I"⟩, 8) := ⟨⟨by decide +kernel, by decide +kernel⟩, List.mem_of_getElem? (i := 49) (by decide +kernel), List.mem_of_getElem? (i := 516) (by decide +kernel), List.mem_of_getElem? (i := 517) (by decide +kernel)⟩
theorem lw_p43 : lw_okq (⟨"GlassJar$Lottery", "changeByService", "(II)I"⟩, 8) := ⟨⟨by decide +kernel, by decide +kernel⟩, List.mem_of_getElem? (i := 49) (by decide +kernel), List.mem_of_getElem? (i := 522) (by decide +kernel), List.mem_of_getElem? (i := 523) (by decide +kernel)⟩
theorem lw_p44 : lw_okq (⟨"GlassJar$Lottery", "lossLeft", "(I)I"⟩, 8) := ⟨⟨by decide +kernel, by decide +kernel⟩, List.mem_of_getElem? (i := 49) (by decide +kernel), List.mem_of_getElem? (i := 526) (by decide +kernel), List.mem_of_getElem? (i := 527) (by decide +kernel)⟩
theorem lw_p45 : lw_okq (⟨"GlassJar$Lottery", "findDoes", "(LGlassJar$Jar;ILGlassJar$Ratio;)Z"⟩, 8) := ⟨⟨by decide +kernel, by decide +kernel⟩, List.mem_of_getElem? (i := 49) (by decide +kernel), List.mem_of_getElem? (i := 535) (by decide +kernel), List.mem_of_getElem? (i := 536) (by decide +kernel)⟩
theorem lw_p46 : lw_okq (⟨"GlassJar$Sides", "clear", "()V"⟩, 4) := ⟨⟨by decide +kernel, by decide +kernel⟩, List.mem_of_getElem? (i := 173) (by decide +kernel), List.mem_of_getElem? (i := 539) (by decide +kernel), List.mem_of_getElem? (i := 540) (by decide +kernel)⟩
theorem lw_p47 : lw_okq (⟨"GlassJar$Sides", "enter", "(ZJ)V"⟩, 4) := ⟨⟨by decide +kernel, by decide +kernel⟩, List.mem_of_getElem? (i := 173) (by decide +kernel), List.mem_of_getElem? (i := 545) (by decide +kernel), List.mem_of_getElem? (i := 546) (by decide +kernel)⟩
def lw_privs_3 : List (MethodName × Nat) := [(⟨"GlassJar$Jar", "markSeen", "(I)V"⟩, 10), (⟨"GlassJar", "isMan", "(I)Z"⟩, 6), (⟨"GlassJar$Men", "kindAt", "(I)I"⟩, 4), (⟨"GlassJar$Men", "birthdayAt", "(I)I"⟩, 4), (⟨"GlassJar$Men", "payAt", "(I)I"⟩, 4), (⟨"GlassJar$Lottery", "isCalledBy", "(LGlassJar$Jar;I)Z"⟩, 8), (⟨"GlassJar$Lottery", "numberOfMan", "(LGlassJar$Jar;I)I"⟩, 8), (⟨"GlassJar$Lottery", "isCalled", "(I)Z"⟩, 8), (⟨"GlassJar$Lottery", "serviceOf", "(LGlassJar$Jar;I)I"⟩, 8), (⟨"GlassJar$Lottery", "serviceBy", "(II)I"⟩, 8), (⟨"GlassJar$Lottery", "wageOf", "(LGlassJar$Jar;II)I"⟩, 8), (⟨"GlassJar$Lottery", "changeByService", "(II)I"⟩, 8), (⟨"GlassJar$Lottery", "lossLeft", "(I)I"⟩, 8), (⟨"GlassJar$Lottery", "findDoes", "(LGlassJar$Jar;ILGlassJar$Ratio;)Z"⟩, 8), (⟨"GlassJar$Sides", "clear", "()V"⟩, 4), (⟨"GlassJar$Sides", "enter", "(ZJ)V"⟩, 4)]
theorem lw_r3 : ∀ q ∈ lw_privs_3, lw_okq q := List.forall_mem_cons.mpr ⟨lw_p32, List.forall_mem_cons.mpr ⟨lw_p33, List.forall_mem_cons.mpr ⟨lw_p34, List.forall_mem_cons.mpr ⟨lw_p35, List.forall_mem_cons.mpr ⟨lw_p36, List.forall_mem_cons.mpr ⟨lw_p37, List.forall_mem_cons.mpr ⟨lw_p38, List.forall_mem_cons.mpr ⟨lw_p39, List.forall_mem_cons.mpr ⟨lw_p40, List.forall_mem_cons.mpr ⟨lw_p41, List.forall_mem_cons.mpr ⟨lw_p42, List.forall_mem_cons.mpr ⟨lw_p43, List.forall_mem_cons.mpr ⟨lw_p44, List.forall_mem_cons.mpr ⟨lw_p45, List.forall_mem_cons.mpr ⟨lw_p46, List.forall_mem_cons.mpr ⟨lw_p47, fun _ h => absurd h List.not_mem_nil⟩⟩⟩⟩⟩⟩⟩⟩⟩⟩⟩⟩⟩⟩⟩⟩
theorem lw_p48 : lw_okq (⟨"GlassJar$Sides", "findGap", "(LGlassJar$Ratio;)Z"⟩, 4) := ⟨⟨by decide +kernel, by decide +kernel⟩, List.mem_of_getElem? (i := 173) (by decide +kernel), List.mem_of_getElem? (i := 549) (by decide +kernel), List.mem_of_getElem? (i := 550) (by decide +kernel)⟩
theorem lw_p49 : lw_okq (⟨"GlassJar", "partOrNone", "(ZI)J"⟩, 6) := ⟨⟨by decide +kernel, by decide +kernel⟩, List.mem_of_getElem? (i := 14) (by decide +kernel), List.mem_of_getElem? (i := 554) (by decide +kernel), List.mem_of_getElem? (i := 555) (by decide +kernel)⟩
theorem lw_p50 : lw_okq (⟨"GlassJar$Lottery", "findShare", "(LGlassJar$Jar;LGlassJar$Ratio;)Z"⟩, 8) := ⟨⟨by decide +kernel, by decide +kernel⟩, List.mem_of_getElem? (i := 49) (by decide +kernel), List.mem_of_getElem? (i := 562) (by decide +kernel), List.mem_of_getElem? (i := 563) (by decide +kernel)⟩
theorem lw_p51 : lw_okq (⟨"GlassJar$Lottery", "hasServed", "(II)Z"⟩, 8) := ⟨⟨by decide +kernel, by decide +kernel⟩, List.mem_of_getElem? (i := 49) (by decide +kernel), List.mem_of_getElem? (i := 566) (by decide +kernel), List.mem_of_getElem? (i := 567) (by decide +kernel)⟩
theorem lw_p52 : lw_okq (⟨"GlassJar$Lottery", "findServing", "(LGlassJar$Jar;ILGlassJar$Ratio;)Z"⟩, 8) := ⟨⟨by decide +kernel, by decide +kernel⟩, List.mem_of_getElem? (i := 49) (by decide +kernel), List.mem_of_getElem? (i := 574) (by decide +kernel), List.mem_of_getElem? (i := 575) (by decide +kernel)⟩
theorem lw_p53 : lw_okq (⟨"GlassJar$Lottery", "findTruly", "(LGlassJar$Jar;ILGlassJar$Ratio;)Z"⟩, 8) := ⟨⟨by decide +kernel, by decide +kernel⟩, List.mem_of_getElem? (i := 49) (by decide +kernel), List.mem_of_getElem? (i := 585) (by decide +kernel), List.mem_of_getElem? (i := 586) (by decide +kernel)⟩
theorem lw_p54 : lw_okq (⟨"GlassJar$Lottery", "servesOnlyIfCalled", "(II)Z"⟩, 8) := ⟨⟨by decide +kernel, by decide +kernel⟩, List.mem_of_getElem? (i := 49) (by decide +kernel), List.mem_of_getElem? (i := 589) (by decide +kernel), List.mem_of_getElem? (i := 590) (by decide +kernel)⟩
theorem lw_p55 : lw_okq (⟨"GlassJar$Ratio", "isWithin", "(J)Z"⟩, 2) := ⟨⟨by decide +kernel, by decide +kernel⟩, List.mem_of_getElem? (i := 192) (by decide +kernel), List.mem_of_getElem? (i := 597) (by decide +kernel), List.mem_of_getElem? (i := 598) (by decide +kernel)⟩
theorem lw_p56 : lw_okq (⟨"GlassJar$Lottery", "isShown", "(I)Z"⟩, 8) := ⟨⟨by decide +kernel, by decide +kernel⟩, List.mem_of_getElem? (i := 49) (by decide +kernel), List.mem_of_getElem? (i := 605) (by decide +kernel), List.mem_of_getElem? (i := 606) (by decide +kernel)⟩
theorem lw_p57 : lw_okq (⟨"GlassJar$Lottery", "menOfMonth", "(I)I"⟩, 8) := ⟨⟨by decide +kernel, by decide +kernel⟩, List.mem_of_getElem? (i := 49) (by decide +kernel), List.mem_of_getElem? (i := 609) (by decide +kernel), List.mem_of_getElem? (i := 610) (by decide +kernel)⟩
theorem lw_p58 : lw_okq (⟨"GlassJar$Lottery", "findGroup", "(LGlassJar$Jar;IILGlassJar$Ratio;)V"⟩, 8) := ⟨⟨by decide +kernel, by decide +kernel⟩, List.mem_of_getElem? (i := 49) (by decide +kernel), List.mem_of_getElem? (i := 617) (by decide +kernel), List.mem_of_getElem? (i := 618) (by decide +kernel)⟩
theorem lw_p59 : lw_okq (⟨"GlassJar$Lottery", "leastCutFor", "(LGlassJar$Jar;I)I"⟩, 8) := ⟨⟨by decide +kernel, by decide +kernel⟩, List.mem_of_getElem? (i := 49) (by decide +kernel), List.mem_of_getElem? (i := 637) (by decide +kernel), List.mem_of_getElem? (i := 638) (by decide +kernel)⟩
theorem lw_p60 : lw_okq (⟨"GlassJar$Lottery", "menWithNumberUpTo", "(LGlassJar$Jar;I)I"⟩, 8) := ⟨⟨by decide +kernel, by decide +kernel⟩, List.mem_of_getElem? (i := 49) (by decide +kernel), List.mem_of_getElem? (i := 641) (by decide +kernel), List.mem_of_getElem? (i := 642) (by decide +kernel)⟩
theorem lw_p61 : lw_okq (⟨"GlassJar$Lottery", "copyLottery", "(LGlassJar$Lottery;)V"⟩, 8) := ⟨⟨by decide +kernel, by decide +kernel⟩, List.mem_of_getElem? (i := 49) (by decide +kernel), List.mem_of_getElem? (i := 649) (by decide +kernel), List.mem_of_getElem? (i := 650) (by decide +kernel)⟩
theorem lw_p62 : lw_okq (⟨"GlassJar$Jar", "copyJar", "(LGlassJar$Jar;)V"⟩, 10) := ⟨⟨by decide +kernel, by decide +kernel⟩, List.mem_of_getElem? (i := 55) (by decide +kernel), List.mem_of_getElem? (i := 653) (by decide +kernel), List.mem_of_getElem? (i := 654) (by decide +kernel)⟩
theorem lw_p63 : lw_okq (⟨"GlassJar$Men", "copyMen", "(LGlassJar$Men;)V"⟩, 4) := ⟨⟨by decide +kernel, by decide +kernel⟩, List.mem_of_getElem? (i := 143) (by decide +kernel), List.mem_of_getElem? (i := 662) (by decide +kernel), List.mem_of_getElem? (i := 663) (by decide +kernel)⟩
def lw_privs_4 : List (MethodName × Nat) := [(⟨"GlassJar$Sides", "findGap", "(LGlassJar$Ratio;)Z"⟩, 4), (⟨"GlassJar", "partOrNone", "(ZI)J"⟩, 6), (⟨"GlassJar$Lottery", "findShare", "(LGlassJar$Jar;LGlassJar$Ratio;)Z"⟩, 8), (⟨"GlassJar$Lottery", "hasServed", "(II)Z"⟩, 8), (⟨"GlassJar$Lottery", "findServing", "(LGlassJar$Jar;ILGlassJar$Ratio;)Z"⟩, 8), (⟨"GlassJar$Lottery", "findTruly", "(LGlassJar$Jar;ILGlassJar$Ratio;)Z"⟩, 8), (⟨"GlassJar$Lottery", "servesOnlyIfCalled", "(II)Z"⟩, 8), (⟨"GlassJar$Ratio", "isWithin", "(J)Z"⟩, 2), (⟨"GlassJar$Lottery", "isShown", "(I)Z"⟩, 8), (⟨"GlassJar$Lottery", "menOfMonth", "(I)I"⟩, 8), (⟨"GlassJar$Lottery", "findGroup", "(LGlassJar$Jar;IILGlassJar$Ratio;)V"⟩, 8), (⟨"GlassJar$Lottery", "leastCutFor", "(LGlassJar$Jar;I)I"⟩, 8), (⟨"GlassJar$Lottery", "menWithNumberUpTo", "(LGlassJar$Jar;I)I"⟩, 8), (⟨"GlassJar$Lottery", "copyLottery", "(LGlassJar$Lottery;)V"⟩, 8), (⟨"GlassJar$Jar", "copyJar", "(LGlassJar$Jar;)V"⟩, 10), (⟨"GlassJar$Men", "copyMen", "(LGlassJar$Men;)V"⟩, 4)]
theorem lw_r4 : ∀ q ∈ lw_privs_4, lw_okq q := List.forall_mem_cons.mpr ⟨lw_p48, List.forall_mem_cons.mpr ⟨lw_p49, List.forall_mem_cons.mpr ⟨lw_p50, List.forall_mem_cons.mpr ⟨lw_p51, List.forall_mem_cons.mpr ⟨lw_p52, List.forall_mem_cons.mpr ⟨lw_p53, List.forall_mem_cons.mpr ⟨lw_p54, List.forall_mem_cons.mpr ⟨lw_p55, List.forall_mem_cons.mpr ⟨lw_p56, List.forall_mem_cons.mpr ⟨lw_p57, List.forall_mem_cons.mpr ⟨lw_p58, List.forall_mem_cons.mpr ⟨lw_p59, List.forall_mem_cons.mpr ⟨lw_p60, List.forall_mem_cons.mpr ⟨lw_p61, List.forall_mem_cons.mpr ⟨lw_p62, List.forall_mem_cons.mpr ⟨lw_p63, fun _ h => absurd h List.not_mem_nil⟩⟩⟩⟩⟩⟩⟩⟩⟩⟩⟩⟩⟩⟩⟩⟩
theorem lw_p64 : lw_okq (⟨"GlassJar$Lottery", "menWhoServed", "(LGlassJar$Jar;)I"⟩, 8) := ⟨⟨by decide +kernel, by decide +kernel⟩, List.mem_of_getElem? (i := 49) (by decide +kernel), List.mem_of_getElem? (i := 676) (by decide +kernel), List.mem_of_getElem? (i := 677) (by decide +kernel)⟩
theorem lw_p65 : lw_okq (⟨"GlassJarModel", "no", "(I)I"⟩, 28) := ⟨⟨by decide +kernel, by decide +kernel⟩, List.mem_of_getElem? (i := 680) (by decide +kernel), List.mem_of_getElem? (i := 779) (by decide +kernel), List.mem_of_getElem? (i := 780) (by decide +kernel)⟩
theorem lw_p66 : lw_okq (⟨"GlassJarModel", "numberOf", "(II)I"⟩, 28) := ⟨⟨by decide +kernel, by decide +kernel⟩, List.mem_of_getElem? (i := 680) (by decide +kernel), List.mem_of_getElem? (i := 794) (by decide +kernel), List.mem_of_getElem? (i := 795) (by decide +kernel)⟩
theorem lw_p67 : lw_okq (⟨"GlassJarModel", "draws", "(I)V"⟩, 28) := ⟨⟨by decide +kernel, by decide +kernel⟩, List.mem_of_getElem? (i := 680) (by decide +kernel), List.mem_of_getElem? (i := 798) (by decide +kernel), List.mem_of_getElem? (i := 799) (by decide +kernel)⟩
theorem lw_p68 : lw_okq (⟨"GlassJarModel", "lot", "(I)I"⟩, 28) := ⟨⟨by decide +kernel, by decide +kernel⟩, List.mem_of_getElem? (i := 680) (by decide +kernel), List.mem_of_getElem? (i := 802) (by decide +kernel), List.mem_of_getElem? (i := 803) (by decide +kernel)⟩
theorem lw_p69 : lw_okq (⟨"GlassJarModel", "changes", "(II)V"⟩, 28) := ⟨⟨by decide +kernel, by decide +kernel⟩, List.mem_of_getElem? (i := 680) (by decide +kernel), List.mem_of_getElem? (i := 809) (by decide +kernel), List.mem_of_getElem? (i := 810) (by decide +kernel)⟩
theorem lw_p70 : lw_okq (⟨"GlassJarModel", "noLong", "(I)J"⟩, 28) := ⟨⟨by decide +kernel, by decide +kernel⟩, List.mem_of_getElem? (i := 680) (by decide +kernel), List.mem_of_getElem? (i := 827) (by decide +kernel), List.mem_of_getElem? (i := 828) (by decide +kernel)⟩
theorem lw_p71 : lw_okq (⟨"GlassJarModel", "sumOf", "(II)J"⟩, 28) := ⟨⟨by decide +kernel, by decide +kernel⟩, List.mem_of_getElem? (i := 680) (by decide +kernel), List.mem_of_getElem? (i := 835) (by decide +kernel), List.mem_of_getElem? (i := 836) (by decide +kernel)⟩
theorem lw_p72 : lw_okq (⟨"GlassJarModel", "firstOf", "(I)I"⟩, 28) := ⟨⟨by decide +kernel, by decide +kernel⟩, List.mem_of_getElem? (i := 680) (by decide +kernel), List.mem_of_getElem? (i := 839) (by decide +kernel), List.mem_of_getElem? (i := 840) (by decide +kernel)⟩
theorem lw_p73 : lw_okq (⟨"GlassJarModel", "lessens", "(JJ)V"⟩, 28) := ⟨⟨by decide +kernel, by decide +kernel⟩, List.mem_of_getElem? (i := 680) (by decide +kernel), List.mem_of_getElem? (i := 843) (by decide +kernel), List.mem_of_getElem? (i := 844) (by decide +kernel)⟩
theorem lw_p74 : lw_okq (⟨"GlassJarModel", "told", "(I)J"⟩, 28) := ⟨⟨by decide +kernel, by decide +kernel⟩, List.mem_of_getElem? (i := 680) (by decide +kernel), List.mem_of_getElem? (i := 847) (by decide +kernel), List.mem_of_getElem? (i := 848) (by decide +kernel)⟩
theorem lw_p75 : lw_okq (⟨"GlassJarModel", "offOf", "(II)J"⟩, 28) := ⟨⟨by decide +kernel, by decide +kernel⟩, List.mem_of_getElem? (i := 680) (by decide +kernel), List.mem_of_getElem? (i := 862) (by decide +kernel), List.mem_of_getElem? (i := 863) (by decide +kernel)⟩
theorem lw_p76 : lw_okq (⟨"GlassJarModel", "reads", "()Z"⟩, 28) := ⟨⟨by decide +kernel, by decide +kernel⟩, List.mem_of_getElem? (i := 680) (by decide +kernel), List.mem_of_getElem? (i := 879) (by decide +kernel), List.mem_of_getElem? (i := 880) (by decide +kernel)⟩
theorem lw_p77 : lw_okq (⟨"GlassJarModel", "sign", "()I"⟩, 28) := ⟨⟨by decide +kernel, by decide +kernel⟩, List.mem_of_getElem? (i := 680) (by decide +kernel), List.mem_of_getElem? (i := 883) (by decide +kernel), List.mem_of_getElem? (i := 884) (by decide +kernel)⟩
theorem lw_p78 : lw_okq (⟨"GlassJarModel", "number", "(I)I"⟩, 28) := ⟨⟨by decide +kernel, by decide +kernel⟩, List.mem_of_getElem? (i := 680) (by decide +kernel), List.mem_of_getElem? (i := 887) (by decide +kernel), List.mem_of_getElem? (i := 888) (by decide +kernel)⟩
theorem lw_p79 : lw_okq (⟨"GlassJarModel", "isMan", "(I)Z"⟩, 28) := ⟨⟨by decide +kernel, by decide +kernel⟩, List.mem_of_getElem? (i := 680) (by decide +kernel), List.mem_of_getElem? (i := 895) (by decide +kernel), List.mem_of_getElem? (i := 896) (by decide +kernel)⟩
def lw_privs_5 : List (MethodName × Nat) := [(⟨"GlassJar$Lottery", "menWhoServed", "(LGlassJar$Jar;)I"⟩, 8), (⟨"GlassJarModel", "no", "(I)I"⟩, 28), (⟨"GlassJarModel", "numberOf", "(II)I"⟩, 28), (⟨"GlassJarModel", "draws", "(I)V"⟩, 28), (⟨"GlassJarModel", "lot", "(I)I"⟩, 28), (⟨"GlassJarModel", "changes", "(II)V"⟩, 28), (⟨"GlassJarModel", "noLong", "(I)J"⟩, 28), (⟨"GlassJarModel", "sumOf", "(II)J"⟩, 28), (⟨"GlassJarModel", "firstOf", "(I)I"⟩, 28), (⟨"GlassJarModel", "lessens", "(JJ)V"⟩, 28), (⟨"GlassJarModel", "told", "(I)J"⟩, 28), (⟨"GlassJarModel", "offOf", "(II)J"⟩, 28), (⟨"GlassJarModel", "reads", "()Z"⟩, 28), (⟨"GlassJarModel", "sign", "()I"⟩, 28), (⟨"GlassJarModel", "number", "(I)I"⟩, 28), (⟨"GlassJarModel", "isMan", "(I)Z"⟩, 28)]
theorem lw_r5 : ∀ q ∈ lw_privs_5, lw_okq q := List.forall_mem_cons.mpr ⟨lw_p64, List.forall_mem_cons.mpr ⟨lw_p65, List.forall_mem_cons.mpr ⟨lw_p66, List.forall_mem_cons.mpr ⟨lw_p67, List.forall_mem_cons.mpr ⟨lw_p68, List.forall_mem_cons.mpr ⟨lw_p69, List.forall_mem_cons.mpr ⟨lw_p70, List.forall_mem_cons.mpr ⟨lw_p71, List.forall_mem_cons.mpr ⟨lw_p72, List.forall_mem_cons.mpr ⟨lw_p73, List.forall_mem_cons.mpr ⟨lw_p74, List.forall_mem_cons.mpr ⟨lw_p75, List.forall_mem_cons.mpr ⟨lw_p76, List.forall_mem_cons.mpr ⟨lw_p77, List.forall_mem_cons.mpr ⟨lw_p78, List.forall_mem_cons.mpr ⟨lw_p79, fun _ h => absurd h List.not_mem_nil⟩⟩⟩⟩⟩⟩⟩⟩⟩⟩⟩⟩⟩⟩⟩⟩
theorem lw_p80 : lw_okq (⟨"GlassJarModel", "isCalled", "(II)Z"⟩, 28) := ⟨⟨by decide +kernel, by decide +kernel⟩, List.mem_of_getElem? (i := 680) (by decide +kernel), List.mem_of_getElem? (i := 911) (by decide +kernel), List.mem_of_getElem? (i := 912) (by decide +kernel)⟩
theorem lw_p81 : lw_okq (⟨"GlassJarModel", "servedAs", "(II)I"⟩, 28) := ⟨⟨by decide +kernel, by decide +kernel⟩, List.mem_of_getElem? (i := 680) (by decide +kernel), List.mem_of_getElem? (i := 919) (by decide +kernel), List.mem_of_getElem? (i := 920) (by decide +kernel)⟩
theorem lw_p82 : lw_okq (⟨"GlassJarModel", "wageOf", "(III)J"⟩, 28) := ⟨⟨by decide +kernel, by decide +kernel⟩, List.mem_of_getElem? (i := 680) (by decide +kernel), List.mem_of_getElem? (i := 930) (by decide +kernel), List.mem_of_getElem? (i := 931) (by decide +kernel)⟩
theorem lw_p83 : lw_okq (⟨"GlassJarModel", "lossIn", "(I)I"⟩, 28) := ⟨⟨by decide +kernel, by decide +kernel⟩, List.mem_of_getElem? (i := 680) (by decide +kernel), List.mem_of_getElem? (i := 934) (by decide +kernel), List.mem_of_getElem? (i := 935) (by decide +kernel)⟩
theorem lw_p84 : lw_okq (⟨"GlassJarModel", "notAsked", "(II)I"⟩, 28) := ⟨⟨by decide +kernel, by decide +kernel⟩, List.mem_of_getElem? (i := 680) (by decide +kernel), List.mem_of_getElem? (i := 942) (by decide +kernel), List.mem_of_getElem? (i := 943) (by decide +kernel)⟩
theorem lw_p85 : lw_okq (⟨"GlassJarModel", "differs", "(II)Z"⟩, 28) := ⟨⟨by decide +kernel, by decide +kernel⟩, List.mem_of_getElem? (i := 680) (by decide +kernel), List.mem_of_getElem? (i := 946) (by decide +kernel), List.mem_of_getElem? (i := 947) (by decide +kernel)⟩
theorem lw_p86 : lw_okq (⟨"GlassJarModel", "hasServed", "(II)Z"⟩, 28) := ⟨⟨by decide +kernel, by decide +kernel⟩, List.mem_of_getElem? (i := 680) (by decide +kernel), List.mem_of_getElem? (i := 950) (by decide +kernel), List.mem_of_getElem? (i := 951) (by decide +kernel)⟩
theorem lw_p87 : lw_okq (⟨"GlassJarModel", "bornIn", "(I)I"⟩, 28) := ⟨⟨by decide +kernel, by decide +kernel⟩, List.mem_of_getElem? (i := 680) (by decide +kernel), List.mem_of_getElem? (i := 974) (by decide +kernel), List.mem_of_getElem? (i := 975) (by decide +kernel)⟩
theorem lw_p88 : lw_okq (⟨"GlassJarModel", "monthOf", "(I)I"⟩, 28) := ⟨⟨by decide +kernel, by decide +kernel⟩, List.mem_of_getElem? (i := 680) (by decide +kernel), List.mem_of_getElem? (i := 978) (by decide +kernel), List.mem_of_getElem? (i := 979) (by decide +kernel)⟩
theorem lw_p89 : lw_okq (⟨"GlassJarModel", "passesAll", "()V"⟩, 28) := ⟨⟨by decide +kernel, by decide +kernel⟩, List.mem_of_getElem? (i := 680) (by decide +kernel), List.mem_of_getElem? (i := 1003) (by decide +kernel), List.mem_of_getElem? (i := 1004) (by decide +kernel)⟩
theorem lw_p90 : lw_okq (⟨"GlassJarModel", "passes", "([I)V"⟩, 28) := ⟨⟨by decide +kernel, by decide +kernel⟩, List.mem_of_getElem? (i := 680) (by decide +kernel), List.mem_of_getElem? (i := 1007) (by decide +kernel), List.mem_of_getElem? (i := 1008) (by decide +kernel)⟩
theorem lw_p91 : lw_okq (⟨"GlassJarModel", "passOne", "(I)I"⟩, 28) := ⟨⟨by decide +kernel, by decide +kernel⟩, List.mem_of_getElem? (i := 680) (by decide +kernel), List.mem_of_getElem? (i := 1011) (by decide +kernel), List.mem_of_getElem? (i := 1012) (by decide +kernel)⟩
def lw_privs_6 : List (MethodName × Nat) := [(⟨"GlassJarModel", "isCalled", "(II)Z"⟩, 28), (⟨"GlassJarModel", "servedAs", "(II)I"⟩, 28), (⟨"GlassJarModel", "wageOf", "(III)J"⟩, 28), (⟨"GlassJarModel", "lossIn", "(I)I"⟩, 28), (⟨"GlassJarModel", "notAsked", "(II)I"⟩, 28), (⟨"GlassJarModel", "differs", "(II)Z"⟩, 28), (⟨"GlassJarModel", "hasServed", "(II)Z"⟩, 28), (⟨"GlassJarModel", "bornIn", "(I)I"⟩, 28), (⟨"GlassJarModel", "monthOf", "(I)I"⟩, 28), (⟨"GlassJarModel", "passesAll", "()V"⟩, 28), (⟨"GlassJarModel", "passes", "([I)V"⟩, 28), (⟨"GlassJarModel", "passOne", "(I)I"⟩, 28)]
theorem lw_r6 : ∀ q ∈ lw_privs_6, lw_okq q := List.forall_mem_cons.mpr ⟨lw_p80, List.forall_mem_cons.mpr ⟨lw_p81, List.forall_mem_cons.mpr ⟨lw_p82, List.forall_mem_cons.mpr ⟨lw_p83, List.forall_mem_cons.mpr ⟨lw_p84, List.forall_mem_cons.mpr ⟨lw_p85, List.forall_mem_cons.mpr ⟨lw_p86, List.forall_mem_cons.mpr ⟨lw_p87, List.forall_mem_cons.mpr ⟨lw_p88, List.forall_mem_cons.mpr ⟨lw_p89, List.forall_mem_cons.mpr ⟨lw_p90, List.forall_mem_cons.mpr ⟨lw_p91, fun _ h => absurd h List.not_mem_nil⟩⟩⟩⟩⟩⟩⟩⟩⟩⟩⟩⟩
def lw_privs : List (MethodName × Nat) := lw_privs_1 ++ (lw_privs_2 ++ (lw_privs_3 ++ (lw_privs_4 ++ (lw_privs_5 ++ (lw_privs_6)))))
def lw_tbl : List Cond := k2_sels lw_privs ++ tables_1
theorem lw_privs_ok : ∀ q ∈ lw_privs, lw_okq q := by
  show ∀ q ∈ lw_privs_1 ++ (lw_privs_2 ++ (lw_privs_3 ++ (lw_privs_4 ++ (lw_privs_5 ++ (lw_privs_6))))), lw_okq q
  exact List.forall_mem_append.mpr ⟨lw_r1, List.forall_mem_append.mpr ⟨lw_r2, List.forall_mem_append.mpr ⟨lw_r3, List.forall_mem_append.mpr ⟨lw_r4, List.forall_mem_append.mpr ⟨lw_r5, lw_r6⟩⟩⟩⟩⟩
-- ===== end of PART A; then your names; then what follows =====
end
section
def RX0 : String := "GlassJar$Jar"
def TX0 : u_T := fun k => match k with
  | 0 => ("GlassJar$Jar", "seed", "I", false)
  | 1 => ("GlassJar$Jar", "shakes", "I", false)
  | 2 => ("GlassJar$Jar", "spread", "I", false)
  | 3 => ("GlassJar$Jar", "depth", "I", false)
  | 4 => ("GlassJar$Jar", "poured", "Z", false)
  | 5 => ("GlassJar$Jar", "numberOfDay", "[I", true)
  | 6 => ("GlassJar$Jar", "dayOfNumber", "[I", true)
  | 7 => ("GlassJar$Jar", "row", "[I", true)
  | 8 => ("GlassJar$Jar", "seen", "[J", true)
  | _ => ("GlassJar$Jar", "lotState", "I", false)
def tyX0 : Nat → FieldType := fun k => match k with
  | 0 => .int
  | 1 => .int
  | 2 => .int
  | 3 => .int
  | 4 => .boolean
  | 5 => .array .int
  | 6 => .array .int
  | 7 => .array .int
  | 8 => .array .long
  | _ => .int
theorem nmX0 : ∀ a, a < 10 → ∀ b, b < 10 → a ≠ b → (TX0 a).2.1 ≠ (TX0 b).2.1 := by decide +kernel
theorem tyX0_ok : ∀ k, k < 10 → parseFieldDescriptor (TX0 k).2.2.1 = some (tyX0 k) := by decide +kernel
abbrev cX0_init : ByteArray := prog_2_method_1_code
def yX0_init : MethodName := ⟨RX0, "<init>", "()V"⟩
abbrev cX0_prepare : ByteArray := prog_2_method_2_code
def yX0_prepare : MethodName := ⟨RX0, "prepare", "(IIII)V"⟩
abbrev cX0_turnOver : ByteArray := prog_2_method_3_code
def yX0_turnOver : MethodName := ⟨RX0, "turnOver", "(Z)Z"⟩
abbrev cX0_copyJar : ByteArray := prog_2_method_4_code
def yX0_copyJar : MethodName := ⟨RX0, "copyJar", "(LGlassJar$Jar;)V"⟩
abbrev cX0_draw : ByteArray := prog_2_method_5_code
def yX0_draw : MethodName := ⟨RX0, "draw", "()V"⟩
abbrev cX0_lot : ByteArray := prog_2_method_6_code
def yX0_lot : MethodName := ⟨RX0, "lot", "(I)I"⟩
abbrev cX0_layDays : ByteArray := prog_2_method_7_code
def yX0_layDays : MethodName := ⟨RX0, "layDays", "()V"⟩
abbrev cX0_shakeRow : ByteArray := prog_2_method_8_code
def yX0_shakeRow : MethodName := ⟨RX0, "shakeRow", "()V"⟩
abbrev cX0_turnRow : ByteArray := prog_2_method_9_code
def yX0_turnRow : MethodName := ⟨RX0, "turnRow", "()V"⟩
abbrev cX0_drawRow : ByteArray := prog_2_method_10_code
def yX0_drawRow : MethodName := ⟨RX0, "drawRow", "()V"⟩
abbrev cX0_swap : ByteArray := prog_2_method_11_code
def yX0_swap : MethodName := ⟨RX0, "swap", "(II)V"⟩
abbrev cX0_closeGap : ByteArray := prog_2_method_12_code
def yX0_closeGap : MethodName := ⟨RX0, "closeGap", "(II)V"⟩
abbrev cX0_numberAt : ByteArray := prog_2_method_13_code
def yX0_numberAt : MethodName := ⟨RX0, "numberAt", "(I)I"⟩
abbrev cX0_dayAt : ByteArray := prog_2_method_14_code
def yX0_dayAt : MethodName := ⟨RX0, "dayAt", "(I)I"⟩
abbrev cX0_monthSum : ByteArray := prog_2_method_15_code
def yX0_monthSum : MethodName := ⟨RX0, "monthSum", "(I)I"⟩
abbrev cX0_leaning : ByteArray := prog_2_method_16_code
def yX0_leaning : MethodName := ⟨RX0, "leaning", "()J"⟩
abbrev cX0_worstMonth : ByteArray := prog_2_method_17_code
def yX0_worstMonth : MethodName := ⟨RX0, "worstMonth", "()I"⟩
abbrev cX0_monthDistance : ByteArray := prog_2_method_18_code
def yX0_monthDistance : MethodName := ⟨RX0, "monthDistance", "(I)J"⟩
abbrev cX0_turnedPairs : ByteArray := prog_2_method_19_code
def yX0_turnedPairs : MethodName := ⟨RX0, "turnedPairs", "()I"⟩
abbrev cX0_seenAbove : ByteArray := prog_2_method_20_code
def yX0_seenAbove : MethodName := ⟨RX0, "seenAbove", "(I)I"⟩
abbrev cX0_markSeen : ByteArray := prog_2_method_21_code
def yX0_markSeen : MethodName := ⟨RX0, "markSeen", "(I)V"⟩
def RX1 : String := "GlassJar$Lottery"
def TX1 : u_T := fun k => match k with
  | 0 => ("GlassJar$Lottery", "firstJar", "LGlassJar$Jar;", true)
  | 1 => ("GlassJar$Lottery", "secondJar", "LGlassJar$Jar;", true)
  | 2 => ("GlassJar$Lottery", "men", "LGlassJar$Men;", true)
  | 3 => ("GlassJar$Lottery", "laws", "[I", true)
  | 4 => ("GlassJar$Lottery", "cutNumber", "I", false)
  | 5 => ("GlassJar$Lottery", "leastMen", "I", false)
  | 6 => ("GlassJar$Lottery", "sides", "LGlassJar$Sides;", true)
  | _ => ("GlassJar$Lottery", "shareRatio", "LGlassJar$Ratio;", true)
def tyX1 : Nat → FieldType := fun k => match k with
  | 0 => .object "GlassJar$Jar"
  | 1 => .object "GlassJar$Jar"
  | 2 => .object "GlassJar$Men"
  | 3 => .array .int
  | 4 => .int
  | 5 => .int
  | 6 => .object "GlassJar$Sides"
  | _ => .object "GlassJar$Ratio"
theorem nmX1 : ∀ a, a < 8 → ∀ b, b < 8 → a ≠ b → (TX1 a).2.1 ≠ (TX1 b).2.1 := by decide +kernel
theorem tyX1_ok : ∀ k, k < 8 → parseFieldDescriptor (TX1 k).2.2.1 = some (tyX1 k) := by decide +kernel
abbrev cX1_init : ByteArray := prog_3_method_1_code
def yX1_init : MethodName := ⟨RX1, "<init>", "()V"⟩
abbrev cX1_copyLottery : ByteArray := prog_3_method_2_code
def yX1_copyLottery : MethodName := ⟨RX1, "copyLottery", "(LGlassJar$Lottery;)V"⟩
abbrev cX1_jarAt : ByteArray := prog_3_method_3_code
def yX1_jarAt : MethodName := ⟨RX1, "jarAt", "(I)LGlassJar$Jar;"⟩
abbrev cX1_numberOfMan : ByteArray := prog_3_method_4_code
def yX1_numberOfMan : MethodName := ⟨RX1, "numberOfMan", "(LGlassJar$Jar;I)I"⟩
abbrev cX1_isEven : ByteArray := prog_3_method_5_code
def yX1_isEven : MethodName := ⟨RX1, "isEven", "(I)Z"⟩
abbrev cX1_isCalled : ByteArray := prog_3_method_6_code
def yX1_isCalled : MethodName := ⟨RX1, "isCalled", "(I)Z"⟩
abbrev cX1_isCalledBy : ByteArray := prog_3_method_7_code
def yX1_isCalledBy : MethodName := ⟨RX1, "isCalledBy", "(LGlassJar$Jar;I)Z"⟩
abbrev cX1_serviceOf : ByteArray := prog_3_method_8_code
def yX1_serviceOf : MethodName := ⟨RX1, "serviceOf", "(LGlassJar$Jar;I)I"⟩
abbrev cX1_serviceBy : ByteArray := prog_3_method_9_code
def yX1_serviceBy : MethodName := ⟨RX1, "serviceBy", "(II)I"⟩
abbrev cX1_hasServed : ByteArray := prog_3_method_10_code
def yX1_hasServed : MethodName := ⟨RX1, "hasServed", "(II)Z"⟩
abbrev cX1_menWhoServed : ByteArray := prog_3_method_11_code
def yX1_menWhoServed : MethodName := ⟨RX1, "menWhoServed", "(LGlassJar$Jar;)I"⟩
abbrev cX1_lossLeft : ByteArray := prog_3_method_12_code
def yX1_lossLeft : MethodName := ⟨RX1, "lossLeft", "(I)I"⟩
abbrev cX1_changeByService : ByteArray := prog_3_method_13_code
def yX1_changeByService : MethodName := ⟨RX1, "changeByService", "(II)I"⟩
abbrev cX1_wageOf : ByteArray := prog_3_method_14_code
def yX1_wageOf : MethodName := ⟨RX1, "wageOf", "(LGlassJar$Jar;II)I"⟩
abbrev cX1_findDoes : ByteArray := prog_3_method_15_code
def yX1_findDoes : MethodName := ⟨RX1, "findDoes", "(LGlassJar$Jar;ILGlassJar$Ratio;)Z"⟩
abbrev cX1_findShare : ByteArray := prog_3_method_16_code
def yX1_findShare : MethodName := ⟨RX1, "findShare", "(LGlassJar$Jar;LGlassJar$Ratio;)Z"⟩
abbrev cX1_findServing : ByteArray := prog_3_method_17_code
def yX1_findServing : MethodName := ⟨RX1, "findServing", "(LGlassJar$Jar;ILGlassJar$Ratio;)Z"⟩
abbrev cX1_findTruly : ByteArray := prog_3_method_18_code
def yX1_findTruly : MethodName := ⟨RX1, "findTruly", "(LGlassJar$Jar;ILGlassJar$Ratio;)Z"⟩
abbrev cX1_servesOnlyIfCalled : ByteArray := prog_3_method_19_code
def yX1_servesOnlyIfCalled : MethodName := ⟨RX1, "servesOnlyIfCalled", "(II)Z"⟩
abbrev cX1_menOfMonth : ByteArray := prog_3_method_20_code
def yX1_menOfMonth : MethodName := ⟨RX1, "menOfMonth", "(I)I"⟩
abbrev cX1_isShown : ByteArray := prog_3_method_21_code
def yX1_isShown : MethodName := ⟨RX1, "isShown", "(I)Z"⟩
abbrev cX1_findGroup : ByteArray := prog_3_method_22_code
def yX1_findGroup : MethodName := ⟨RX1, "findGroup", "(LGlassJar$Jar;IILGlassJar$Ratio;)V"⟩
abbrev cX1_menWithNumberUpTo : ByteArray := prog_3_method_23_code
def yX1_menWithNumberUpTo : MethodName := ⟨RX1, "menWithNumberUpTo", "(LGlassJar$Jar;I)I"⟩
abbrev cX1_leastCutFor : ByteArray := prog_3_method_24_code
def yX1_leastCutFor : MethodName := ⟨RX1, "leastCutFor", "(LGlassJar$Jar;I)I"⟩
def RX2 : String := "GlassJar$Men"
def TX2 : u_T := fun k => match k with
  | 0 => ("GlassJar$Men", "kinds", "[I", true)
  | 1 => ("GlassJar$Men", "birthdays", "[I", true)
  | 2 => ("GlassJar$Men", "pays", "[I", true)
  | _ => ("GlassJar$Men", "size", "I", false)
def tyX2 : Nat → FieldType := fun k => match k with
  | 0 => .array .int
  | 1 => .array .int
  | 2 => .array .int
  | _ => .int
theorem nmX2 : ∀ a, a < 4 → ∀ b, b < 4 → a ≠ b → (TX2 a).2.1 ≠ (TX2 b).2.1 := by decide +kernel
theorem tyX2_ok : ∀ k, k < 4 → parseFieldDescriptor (TX2 k).2.2.1 = some (tyX2 k) := by decide +kernel
abbrev cX2_init : ByteArray := prog_4_method_1_code
def yX2_init : MethodName := ⟨RX2, "<init>", "()V"⟩
abbrev cX2_enrol : ByteArray := prog_4_method_2_code
def yX2_enrol : MethodName := ⟨RX2, "enrol", "(III)I"⟩
abbrev cX2_copyMen : ByteArray := prog_4_method_3_code
def yX2_copyMen : MethodName := ⟨RX2, "copyMen", "(LGlassJar$Men;)V"⟩
abbrev cX2_kindAt : ByteArray := prog_4_method_4_code
def yX2_kindAt : MethodName := ⟨RX2, "kindAt", "(I)I"⟩
abbrev cX2_birthdayAt : ByteArray := prog_4_method_5_code
def yX2_birthdayAt : MethodName := ⟨RX2, "birthdayAt", "(I)I"⟩
abbrev cX2_payAt : ByteArray := prog_4_method_6_code
def yX2_payAt : MethodName := ⟨RX2, "payAt", "(I)I"⟩
def RX3 : String := "GlassJar$Ratio"
def TX3 : u_T := fun k => match k with
  | 0 => ("GlassJar$Ratio", "above", "J", false)
  | _ => ("GlassJar$Ratio", "below", "J", false)
def tyX3 : Nat → FieldType := fun k => match k with
  | 0 => .long
  | _ => .long
theorem nmX3 : ∀ a, a < 2 → ∀ b, b < 2 → a ≠ b → (TX3 a).2.1 ≠ (TX3 b).2.1 := by decide +kernel
theorem tyX3_ok : ∀ k, k < 2 → parseFieldDescriptor (TX3 k).2.2.1 = some (tyX3 k) := by decide +kernel
abbrev cX3_init : ByteArray := prog_5_method_1_code
def yX3_init : MethodName := ⟨RX3, "<init>", "()V"⟩
abbrev cX3_become : ByteArray := prog_5_method_2_code
def yX3_become : MethodName := ⟨RX3, "become", "(JJ)V"⟩
abbrev cX3_partAt : ByteArray := prog_5_method_3_code
def yX3_partAt : MethodName := ⟨RX3, "partAt", "(I)J"⟩
abbrev cX3_isWithin : ByteArray := prog_5_method_4_code
def yX3_isWithin : MethodName := ⟨RX3, "isWithin", "(J)Z"⟩
abbrev cX3_commonDivisor : ByteArray := prog_5_method_5_code
def yX3_commonDivisor : MethodName := ⟨RX3, "commonDivisor", "(JJ)J"⟩
def RX4 : String := "GlassJar$Sides"
def TX4 : u_T := fun k => match k with
  | 0 => ("GlassJar$Sides", "calledSum", "J", false)
  | 1 => ("GlassJar$Sides", "otherSum", "J", false)
  | 2 => ("GlassJar$Sides", "calledMen", "I", false)
  | _ => ("GlassJar$Sides", "otherMen", "I", false)
def tyX4 : Nat → FieldType := fun k => match k with
  | 0 => .long
  | 1 => .long
  | 2 => .int
  | _ => .int
theorem nmX4 : ∀ a, a < 4 → ∀ b, b < 4 → a ≠ b → (TX4 a).2.1 ≠ (TX4 b).2.1 := by decide +kernel
theorem tyX4_ok : ∀ k, k < 4 → parseFieldDescriptor (TX4 k).2.2.1 = some (tyX4 k) := by decide +kernel
abbrev cX4_init : ByteArray := prog_6_method_1_code
def yX4_init : MethodName := ⟨RX4, "<init>", "()V"⟩
abbrev cX4_clear : ByteArray := prog_6_method_2_code
def yX4_clear : MethodName := ⟨RX4, "clear", "()V"⟩
abbrev cX4_enter : ByteArray := prog_6_method_3_code
def yX4_enter : MethodName := ⟨RX4, "enter", "(ZJ)V"⟩
abbrev cX4_findGap : ByteArray := prog_6_method_4_code
def yX4_findGap : MethodName := ⟨RX4, "findGap", "(LGlassJar$Ratio;)Z"⟩
def RX5 : String := "GlassJar$Tape"
def TX5 : u_T := fun k => match k with
  | 0 => ("GlassJar$Tape", "bytes", "[I", true)
  | 1 => ("GlassJar$Tape", "length", "I", false)
  | 2 => ("GlassJar$Tape", "kind", "I", false)
  | 3 => ("GlassJar$Tape", "birthday", "I", false)
  | _ => ("GlassJar$Tape", "pay", "I", false)
def tyX5 : Nat → FieldType := fun k => match k with
  | 0 => .array .int
  | 1 => .int
  | 2 => .int
  | 3 => .int
  | _ => .int
theorem nmX5 : ∀ a, a < 5 → ∀ b, b < 5 → a ≠ b → (TX5 a).2.1 ≠ (TX5 b).2.1 := by decide +kernel
theorem tyX5_ok : ∀ k, k < 5 → parseFieldDescriptor (TX5 k).2.2.1 = some (tyX5 k) := by decide +kernel
abbrev cX5_init : ByteArray := prog_7_method_1_code
def yX5_init : MethodName := ⟨RX5, "<init>", "()V"⟩
abbrev cX5_hasRoomFor : ByteArray := prog_7_method_2_code
def yX5_hasRoomFor : MethodName := ⟨RX5, "hasRoomFor", "(I)Z"⟩
abbrev cX5_empty : ByteArray := prog_7_method_3_code
def yX5_empty : MethodName := ⟨RX5, "empty", "()V"⟩
abbrev cX5_append : ByteArray := prog_7_method_4_code
def yX5_append : MethodName := ⟨RX5, "append", "(IJ)V"⟩
abbrev cX5_read : ByteArray := prog_7_method_5_code
def yX5_read : MethodName := ⟨RX5, "read", "()I"⟩
abbrev cX5_byteAt : ByteArray := prog_7_method_6_code
def yX5_byteAt : MethodName := ⟨RX5, "byteAt", "(I)I"⟩
abbrev cX5_isDigit : ByteArray := prog_7_method_7_code
def yX5_isDigit : MethodName := ⟨RX5, "isDigit", "(I)Z"⟩
abbrev cX5_endOfDigits : ByteArray := prog_7_method_8_code
def yX5_endOfDigits : MethodName := ⟨RX5, "endOfDigits", "(II)I"⟩
abbrev cX5_valueOf : ByteArray := prog_7_method_9_code
def yX5_valueOf : MethodName := ⟨RX5, "valueOf", "(II)I"⟩
abbrev cX5_kindOfLetter : ByteArray := prog_7_method_10_code
def yX5_kindOfLetter : MethodName := ⟨RX5, "kindOfLetter", "(I)I"⟩
def RX6 : String := "GlassJar"
def TX6 : u_T := fun k => match k with
  | 0 => ("GlassJar", "tape", "LGlassJar$Tape;", true)
  | 1 => ("GlassJar", "now", "LGlassJar$Lottery;", true)
  | 2 => ("GlassJar", "then", "LGlassJar$Lottery;", true)
  | 3 => ("GlassJar", "imageTaken", "Z", false)
  | 4 => ("GlassJar", "refusals", "[I", true)
  | _ => ("GlassJar", "ratio", "LGlassJar$Ratio;", true)
def tyX6 : Nat → FieldType := fun k => match k with
  | 0 => .object "GlassJar$Tape"
  | 1 => .object "GlassJar$Lottery"
  | 2 => .object "GlassJar$Lottery"
  | 3 => .boolean
  | 4 => .array .int
  | _ => .object "GlassJar$Ratio"
theorem nmX6 : ∀ a, a < 6 → ∀ b, b < 6 → a ≠ b → (TX6 a).2.1 ≠ (TX6 b).2.1 := by decide +kernel
theorem tyX6_ok : ∀ k, k < 6 → parseFieldDescriptor (TX6 k).2.2.1 = some (tyX6 k) := by decide +kernel
abbrev cX6_init : ByteArray := prog_1_method_1_code
def yX6_init : MethodName := ⟨RX6, "<init>", "()V"⟩
abbrev cX6_feed : ByteArray := prog_1_method_2_code
def yX6_feed : MethodName := ⟨RX6, "feed", "(IJ)I"⟩
abbrev cX6_man : ByteArray := prog_1_method_3_code
def yX6_man : MethodName := ⟨RX6, "man", "()I"⟩
abbrev cX6_jar : ByteArray := prog_1_method_4_code
def yX6_jar : MethodName := ⟨RX6, "jar", "(IIIII)I"⟩
abbrev cX6_pour : ByteArray := prog_1_method_5_code
def yX6_pour : MethodName := ⟨RX6, "pour", "(IZ)I"⟩
abbrev cX6_number : ByteArray := prog_1_method_6_code
def yX6_number : MethodName := ⟨RX6, "number", "(II)I"⟩
abbrev cX6_dayOf : ByteArray := prog_1_method_7_code
def yX6_dayOf : MethodName := ⟨RX6, "dayOf", "(II)I"⟩
abbrev cX6_mean : ByteArray := prog_1_method_8_code
def yX6_mean : MethodName := ⟨RX6, "mean", "(III)J"⟩
abbrev cX6_lean : ByteArray := prog_1_method_9_code
def yX6_lean : MethodName := ⟨RX6, "lean", "(I)J"⟩
abbrev cX6_worst : ByteArray := prog_1_method_10_code
def yX6_worst : MethodName := ⟨RX6, "worst", "(I)I"⟩
abbrev cX6_turned : ByteArray := prog_1_method_11_code
def yX6_turned : MethodName := ⟨RX6, "turned", "(I)I"⟩
abbrev cX6_manOf : ByteArray := prog_1_method_12_code
def yX6_manOf : MethodName := ⟨RX6, "manOf", "(II)I"⟩
abbrev cX6_cut : ByteArray := prog_1_method_13_code
def yX6_cut : MethodName := ⟨RX6, "cut", "(I)I"⟩
abbrev cX6_law : ByteArray := prog_1_method_14_code
def yX6_law : MethodName := ⟨RX6, "law", "(II)I"⟩
abbrev cX6_called : ByteArray := prog_1_method_15_code
def yX6_called : MethodName := ⟨RX6, "called", "(II)I"⟩
abbrev cX6_served : ByteArray := prog_1_method_16_code
def yX6_served : MethodName := ⟨RX6, "served", "(II)I"⟩
abbrev cX6_wage : ByteArray := prog_1_method_17_code
def yX6_wage : MethodName := ⟨RX6, "wage", "(III)J"⟩
abbrev cX6_does : ByteArray := prog_1_method_18_code
def yX6_does : MethodName := ⟨RX6, "does", "(III)J"⟩
abbrev cX6_share : ByteArray := prog_1_method_19_code
def yX6_share : MethodName := ⟨RX6, "share", "(II)J"⟩
abbrev cX6_serving : ByteArray := prog_1_method_20_code
def yX6_serving : MethodName := ⟨RX6, "serving", "(III)J"⟩
abbrev cX6_truly : ByteArray := prog_1_method_21_code
def yX6_truly : MethodName := ⟨RX6, "truly", "(III)J"⟩
abbrev cX6_faded : ByteArray := prog_1_method_22_code
def yX6_faded : MethodName := ⟨RX6, "faded", "(II)I"⟩
abbrev cX6_group : ByteArray := prog_1_method_23_code
def yX6_group : MethodName := ⟨RX6, "group", "(IIII)J"⟩
abbrev cX6_least : ByteArray := prog_1_method_24_code
def yX6_least : MethodName := ⟨RX6, "least", "(I)I"⟩
abbrev cX6_shown : ByteArray := prog_1_method_25_code
def yX6_shown : MethodName := ⟨RX6, "shown", "()I"⟩
abbrev cX6_moved : ByteArray := prog_1_method_26_code
def yX6_moved : MethodName := ⟨RX6, "moved", "()I"⟩
abbrev cX6_cuts : ByteArray := prog_1_method_27_code
def yX6_cuts : MethodName := ⟨RX6, "cuts", "(II)I"⟩
abbrev cX6_image : ByteArray := prog_1_method_28_code
def yX6_image : MethodName := ⟨RX6, "image", "()I"⟩
abbrev cX6_on : ByteArray := prog_1_method_29_code
def yX6_on : MethodName := ⟨RX6, "on", "()I"⟩
abbrev cX6_count : ByteArray := prog_1_method_30_code
def yX6_count : MethodName := ⟨RX6, "count", "(I)I"⟩
abbrev cX6_isMan : ByteArray := prog_1_method_31_code
def yX6_isMan : MethodName := ⟨RX6, "isMan", "(I)Z"⟩
abbrev cX6_isJar : ByteArray := prog_1_method_32_code
def yX6_isJar : MethodName := ⟨RX6, "isJar", "(I)Z"⟩
abbrev cX6_isMonth : ByteArray := prog_1_method_33_code
def yX6_isMonth : MethodName := ⟨RX6, "isMonth", "(I)Z"⟩
abbrev cX6_isPart : ByteArray := prog_1_method_34_code
def yX6_isPart : MethodName := ⟨RX6, "isPart", "(I)Z"⟩
abbrev cX6_firstThatFits : ByteArray := prog_1_method_35_code
def yX6_firstThatFits : MethodName := ⟨RX6, "firstThatFits", "(ZZZZ)I"⟩
abbrev cX6_refuse : ByteArray := prog_1_method_36_code
def yX6_refuse : MethodName := ⟨RX6, "refuse", "(I)I"⟩
abbrev cX6_refuseLong : ByteArray := prog_1_method_37_code
def yX6_refuseLong : MethodName := ⟨RX6, "refuseLong", "(I)J"⟩
abbrev cX6_partOrNone : ByteArray := prog_1_method_38_code
def yX6_partOrNone : MethodName := ⟨RX6, "partOrNone", "(ZI)J"⟩
abbrev cX6_at : ByteArray := prog_1_method_39_code
def yX6_at : MethodName := ⟨RX6, "at", "([II)I"⟩
abbrev cX6_put : ByteArray := prog_1_method_40_code
def yX6_put : MethodName := ⟨RX6, "put", "([III)V"⟩
abbrev cX6_copyRow : ByteArray := prog_1_method_41_code
def yX6_copyRow : MethodName := ⟨RX6, "copyRow", "([I[I)V"⟩
abbrev cX6_monthLength : ByteArray := prog_1_method_42_code
def yX6_monthLength : MethodName := ⟨RX6, "monthLength", "(I)I"⟩
abbrev cX6_monthOf : ByteArray := prog_1_method_43_code
def yX6_monthOf : MethodName := ⟨RX6, "monthOf", "(I)I"⟩
def RX7 : String := "GlassJarModel"
def TX7 : u_T := fun k => match k with
  | 0 => ("GlassJarModel", "refused", "[I", true)
  | 1 => ("GlassJarModel", "seed", "[I", true)
  | 2 => ("GlassJarModel", "shakes", "[I", true)
  | 3 => ("GlassJarModel", "spread", "[I", true)
  | 4 => ("GlassJarModel", "depth", "[I", true)
  | 5 => ("GlassJarModel", "poured", "[I", true)
  | 6 => ("GlassJarModel", "numbers", "[I", true)
  | 7 => ("GlassJarModel", "row", "[I", true)
  | 8 => ("GlassJarModel", "days", "[I", true)
  | 9 => ("GlassJarModel", "isDrawn", "[Z", true)
  | 10 => ("GlassJarModel", "lots", "I", false)
  | 11 => ("GlassJarModel", "up", "J", false)
  | 12 => ("GlassJarModel", "down", "J", false)
  | 13 => ("GlassJarModel", "tape", "[I", true)
  | 14 => ("GlassJarModel", "kind", "[I", true)
  | 15 => ("GlassJarModel", "born", "[I", true)
  | 16 => ("GlassJarModel", "pay", "[I", true)
  | 17 => ("GlassJarModel", "law", "[I", true)
  | 18 => ("GlassJarModel", "top", "[I", true)
  | 19 => ("GlassJarModel", "taped", "I", false)
  | 20 => ("GlassJarModel", "at", "I", false)
  | 21 => ("GlassJarModel", "men", "I", false)
  | 22 => ("GlassJarModel", "cut", "I", false)
  | 23 => ("GlassJarModel", "least", "I", false)
  | 24 => ("GlassJarModel", "kept", "[I", true)
  | 25 => ("GlassJarModel", "hasImage", "Z", false)
  | 26 => ("GlassJarModel", "isKeeping", "Z", false)
  | _ => ("GlassJarModel", "cursor", "I", false)
def tyX7 : Nat → FieldType := fun k => match k with
  | 0 => .array .int
  | 1 => .array .int
  | 2 => .array .int
  | 3 => .array .int
  | 4 => .array .int
  | 5 => .array .int
  | 6 => .array .int
  | 7 => .array .int
  | 8 => .array .int
  | 9 => .array .boolean
  | 10 => .int
  | 11 => .long
  | 12 => .long
  | 13 => .array .int
  | 14 => .array .int
  | 15 => .array .int
  | 16 => .array .int
  | 17 => .array .int
  | 18 => .array .int
  | 19 => .int
  | 20 => .int
  | 21 => .int
  | 22 => .int
  | 23 => .int
  | 24 => .array .int
  | 25 => .boolean
  | 26 => .boolean
  | _ => .int
theorem nmX7 : ∀ a, a < 28 → ∀ b, b < 28 → a ≠ b → (TX7 a).2.1 ≠ (TX7 b).2.1 := by decide +kernel
theorem tyX7_ok : ∀ k, k < 28 → parseFieldDescriptor (TX7 k).2.2.1 = some (tyX7 k) := by decide +kernel
abbrev cX7_init : ByteArray := prog_9_method_1_code
def yX7_init : MethodName := ⟨RX7, "<init>", "()V"⟩
abbrev cX7_no : ByteArray := prog_9_method_2_code
def yX7_no : MethodName := ⟨RX7, "no", "(I)I"⟩
abbrev cX7_noLong : ByteArray := prog_9_method_3_code
def yX7_noLong : MethodName := ⟨RX7, "noLong", "(I)J"⟩
abbrev cX7_isIn : ByteArray := prog_9_method_4_code
def yX7_isIn : MethodName := ⟨RX7, "isIn", "(III)Z"⟩
abbrev cX7_out : ByteArray := prog_9_method_5_code
def yX7_out : MethodName := ⟨RX7, "out", "(III)I"⟩
abbrev cX7_isJar : ByteArray := prog_9_method_6_code
def yX7_isJar : MethodName := ⟨RX7, "isJar", "(I)Z"⟩
abbrev cX7_lot : ByteArray := prog_9_method_7_code
def yX7_lot : MethodName := ⟨RX7, "lot", "(I)I"⟩
abbrev cX7_jar : ByteArray := prog_9_method_8_code
def yX7_jar : MethodName := ⟨RX7, "jar", "(IIIII)I"⟩
abbrev cX7_pour : ByteArray := prog_9_method_9_code
def yX7_pour : MethodName := ⟨RX7, "pour", "(IZ)I"⟩
abbrev cX7_changes : ByteArray := prog_9_method_10_code
def yX7_changes : MethodName := ⟨RX7, "changes", "(II)V"⟩
abbrev cX7_draws : ByteArray := prog_9_method_11_code
def yX7_draws : MethodName := ⟨RX7, "draws", "(I)V"⟩
abbrev cX7_numberOf : ByteArray := prog_9_method_12_code
def yX7_numberOf : MethodName := ⟨RX7, "numberOf", "(II)I"⟩
abbrev cX7_number : ByteArray := prog_9_method_13_code
def yX7_number : MethodName := ⟨RX7, "number", "(II)I"⟩
abbrev cX7_dayOf : ByteArray := prog_9_method_14_code
def yX7_dayOf : MethodName := ⟨RX7, "dayOf", "(II)I"⟩
abbrev cX7_firstOf : ByteArray := prog_9_method_15_code
def yX7_firstOf : MethodName := ⟨RX7, "firstOf", "(I)I"⟩
abbrev cX7_monthOf : ByteArray := prog_9_method_16_code
def yX7_monthOf : MethodName := ⟨RX7, "monthOf", "(I)I"⟩
abbrev cX7_sumOf : ByteArray := prog_9_method_17_code
def yX7_sumOf : MethodName := ⟨RX7, "sumOf", "(II)J"⟩
abbrev cX7_lessens : ByteArray := prog_9_method_18_code
def yX7_lessens : MethodName := ⟨RX7, "lessens", "(JJ)V"⟩
abbrev cX7_told : ByteArray := prog_9_method_19_code
def yX7_told : MethodName := ⟨RX7, "told", "(I)J"⟩
abbrev cX7_isPart : ByteArray := prog_9_method_20_code
def yX7_isPart : MethodName := ⟨RX7, "isPart", "(I)Z"⟩
abbrev cX7_isMonth : ByteArray := prog_9_method_21_code
def yX7_isMonth : MethodName := ⟨RX7, "isMonth", "(I)Z"⟩
abbrev cX7_mean : ByteArray := prog_9_method_22_code
def yX7_mean : MethodName := ⟨RX7, "mean", "(III)J"⟩
abbrev cX7_lean : ByteArray := prog_9_method_23_code
def yX7_lean : MethodName := ⟨RX7, "lean", "(I)J"⟩
abbrev cX7_offOf : ByteArray := prog_9_method_24_code
def yX7_offOf : MethodName := ⟨RX7, "offOf", "(II)J"⟩
abbrev cX7_worst : ByteArray := prog_9_method_25_code
def yX7_worst : MethodName := ⟨RX7, "worst", "(I)I"⟩
abbrev cX7_turned : ByteArray := prog_9_method_26_code
def yX7_turned : MethodName := ⟨RX7, "turned", "(I)I"⟩
abbrev cX7_feed : ByteArray := prog_9_method_27_code
def yX7_feed : MethodName := ⟨RX7, "feed", "(IJ)I"⟩
abbrev cX7_sign : ByteArray := prog_9_method_28_code
def yX7_sign : MethodName := ⟨RX7, "sign", "()I"⟩
abbrev cX7_number_ : ByteArray := prog_9_method_29_code
def yX7_number_ : MethodName := ⟨RX7, "number", "(I)I"⟩
abbrev cX7_reads : ByteArray := prog_9_method_30_code
def yX7_reads : MethodName := ⟨RX7, "reads", "()Z"⟩
abbrev cX7_man : ByteArray := prog_9_method_31_code
def yX7_man : MethodName := ⟨RX7, "man", "()I"⟩
abbrev cX7_isMan : ByteArray := prog_9_method_32_code
def yX7_isMan : MethodName := ⟨RX7, "isMan", "(I)Z"⟩
abbrev cX7_manOf : ByteArray := prog_9_method_33_code
def yX7_manOf : MethodName := ⟨RX7, "manOf", "(II)I"⟩
abbrev cX7_cut : ByteArray := prog_9_method_34_code
def yX7_cut : MethodName := ⟨RX7, "cut", "(I)I"⟩
abbrev cX7_law : ByteArray := prog_9_method_35_code
def yX7_law : MethodName := ⟨RX7, "law", "(II)I"⟩
abbrev cX7_isCalled : ByteArray := prog_9_method_36_code
def yX7_isCalled : MethodName := ⟨RX7, "isCalled", "(II)Z"⟩
abbrev cX7_servedAs : ByteArray := prog_9_method_37_code
def yX7_servedAs : MethodName := ⟨RX7, "servedAs", "(II)I"⟩
abbrev cX7_hasServed : ByteArray := prog_9_method_38_code
def yX7_hasServed : MethodName := ⟨RX7, "hasServed", "(II)Z"⟩
abbrev cX7_called : ByteArray := prog_9_method_39_code
def yX7_called : MethodName := ⟨RX7, "called", "(II)I"⟩
abbrev cX7_served : ByteArray := prog_9_method_40_code
def yX7_served : MethodName := ⟨RX7, "served", "(II)I"⟩
abbrev cX7_lossIn : ByteArray := prog_9_method_41_code
def yX7_lossIn : MethodName := ⟨RX7, "lossIn", "(I)I"⟩
abbrev cX7_wageOf : ByteArray := prog_9_method_42_code
def yX7_wageOf : MethodName := ⟨RX7, "wageOf", "(III)J"⟩
abbrev cX7_notYear : ByteArray := prog_9_method_43_code
def yX7_notYear : MethodName := ⟨RX7, "notYear", "(I)I"⟩
abbrev cX7_wage : ByteArray := prog_9_method_44_code
def yX7_wage : MethodName := ⟨RX7, "wage", "(III)J"⟩
abbrev cX7_differs : ByteArray := prog_9_method_45_code
def yX7_differs : MethodName := ⟨RX7, "differs", "(II)Z"⟩
abbrev cX7_notAsked : ByteArray := prog_9_method_46_code
def yX7_notAsked : MethodName := ⟨RX7, "notAsked", "(II)I"⟩
abbrev cX7_does : ByteArray := prog_9_method_47_code
def yX7_does : MethodName := ⟨RX7, "does", "(III)J"⟩
abbrev cX7_share : ByteArray := prog_9_method_48_code
def yX7_share : MethodName := ⟨RX7, "share", "(II)J"⟩
abbrev cX7_serving : ByteArray := prog_9_method_49_code
def yX7_serving : MethodName := ⟨RX7, "serving", "(III)J"⟩
abbrev cX7_truly : ByteArray := prog_9_method_50_code
def yX7_truly : MethodName := ⟨RX7, "truly", "(III)J"⟩
abbrev cX7_faded : ByteArray := prog_9_method_51_code
def yX7_faded : MethodName := ⟨RX7, "faded", "(II)I"⟩
abbrev cX7_bornIn : ByteArray := prog_9_method_52_code
def yX7_bornIn : MethodName := ⟨RX7, "bornIn", "(I)I"⟩
abbrev cX7_group : ByteArray := prog_9_method_53_code
def yX7_group : MethodName := ⟨RX7, "group", "(IIII)J"⟩
abbrev cX7_least : ByteArray := prog_9_method_54_code
def yX7_least : MethodName := ⟨RX7, "least", "(I)I"⟩
abbrev cX7_shown : ByteArray := prog_9_method_55_code
def yX7_shown : MethodName := ⟨RX7, "shown", "()I"⟩
abbrev cX7_moved : ByteArray := prog_9_method_56_code
def yX7_moved : MethodName := ⟨RX7, "moved", "()I"⟩
abbrev cX7_cuts : ByteArray := prog_9_method_57_code
def yX7_cuts : MethodName := ⟨RX7, "cuts", "(II)I"⟩
abbrev cX7_passes : ByteArray := prog_9_method_58_code
def yX7_passes : MethodName := ⟨RX7, "passes", "([I)V"⟩
abbrev cX7_passOne : ByteArray := prog_9_method_59_code
def yX7_passOne : MethodName := ⟨RX7, "passOne", "(I)I"⟩
abbrev cX7_passesAll : ByteArray := prog_9_method_60_code
def yX7_passesAll : MethodName := ⟨RX7, "passesAll", "()V"⟩
abbrev cX7_image : ByteArray := prog_9_method_61_code
def yX7_image : MethodName := ⟨RX7, "image", "()I"⟩
abbrev cX7_on : ByteArray := prog_9_method_62_code
def yX7_on : MethodName := ⟨RX7, "on", "()I"⟩
abbrev cX7_count : ByteArray := prog_9_method_63_code
def yX7_count : MethodName := ⟨RX7, "count", "(I)I"⟩
def RJx8e188 : String := "java/lang/Cloneable"
def RJ13 : String := "java/lang/Long"
abbrev cJ13_bitCount_95d88 : ByteArray := prog_11_method_50_code
def yJ13_bitCount_95d88 : MethodName := ⟨RJ13, "bitCount", "(J)I"⟩
def RJ9 : String := "java/lang/Math"
abbrev cJ9_abs_067f4 : ByteArray := prog_12_method_61_code
def yJ9_abs_067f4 : MethodName := ⟨RJ9, "abs", "(J)J"⟩
abbrev cJ9_max_7cf53 : ByteArray := prog_12_method_65_code
def yJ9_max_7cf53 : MethodName := ⟨RJ9, "max", "(II)I"⟩
abbrev cJ9_min_7cf53 : ByteArray := prog_12_method_69_code
def yJ9_min_7cf53 : MethodName := ⟨RJ9, "min", "(II)I"⟩
def RJ10 : String := "java/lang/System"
def RJ7 : String := "java/util/Arrays"
abbrev cJ7_fill_d0a16 : ByteArray := prog_14_method_101_code
def yJ7_fill_d0a16 : MethodName := ⟨RJ7, "fill", "([JJ)V"⟩
def RL : String := "GlassJarLaw"
abbrev cL_law : ByteArray := code
def yL_law : MethodName := ⟨RL, "law", "([I)Z"⟩
abbrev vwCl : List vw_C := [(RX0, TX0, 10), (RX1, TX1, 8), (RX2, TX2, 4), (RX3, TX3, 2), (RX4, TX4, 4), (RX5, TX5, 5), (RX6, TX6, 6), (RX7, TX7, 28)]
end
section
/-- the words that every method may use -/
def gtbl : List Cond := lw_tbl.filter goodWord
theorem gm {w : Cond} (h : w ∈ tables_1) (hg : goodWord w = true) : w ∈ gtbl := List.mem_filter.mpr ⟨List.mem_append_right _ h, hg⟩
theorem tm1 (i : Nat) {w : Cond} (h : tables_1_1[i]? = some w) : w ∈ tables_1 := List.mem_append_left _ (List.mem_of_getElem? h)
theorem tm2 (i : Nat) {w : Cond} (h : tables_1_2[i]? = some w) : w ∈ tables_1 := List.mem_append_right _ (List.mem_append_left _ (List.mem_of_getElem? h))
theorem tm3 (i : Nat) {w : Cond} (h : tables_1_3[i]? = some w) : w ∈ tables_1 := List.mem_append_right _ (List.mem_append_right _ (List.mem_append_left _ (List.mem_of_getElem? h)))
theorem tm4 (i : Nat) {w : Cond} (h : tables_1_4[i]? = some w) : w ∈ tables_1 := List.mem_append_right _ (List.mem_append_right _ (List.mem_append_right _ (List.mem_append_left _ (List.mem_of_getElem? h))))
theorem tm5 (i : Nat) {w : Cond} (h : tables_1_5[i]? = some w) : w ∈ tables_1 := List.mem_append_right _ (List.mem_append_right _ (List.mem_append_right _ (List.mem_append_right _ (List.mem_of_getElem? h))))
def isNestW (w : Cond) : Bool := match w with
  | .fieldLinkNest .. => true
  | .methodLinkNest .. => true
  | _ => false
/-- the words of nest mates -/
def nestW : List Cond := tables_1.filter isNestW
theorem nm {w : Cond} (h : w ∈ tables_1) (hg : isNestW w = true) : w ∈ nestW := List.mem_filter.mpr ⟨h, hg⟩
theorem wk_1_0 : Cond.initialized RL ∈ gtbl := gm (tm1 0 rfl) rfl
theorem wk_1_1 : Cond.initialized RX6 ∈ gtbl := gm (tm1 1 rfl) rfl
theorem wk_1_2 : Cond.initialized RX5 ∈ gtbl := gm (tm1 2 rfl) rfl
theorem wk_1_3 : Cond.initialized RX1 ∈ gtbl := gm (tm1 3 rfl) rfl
theorem wk_1_4 : Cond.initialized RX0 ∈ gtbl := gm (tm1 4 rfl) rfl
theorem wk_1_5 : Cond.initialized RJ9 ∈ gtbl := gm (tm1 5 rfl) rfl
theorem wk_1_6 : Cond.initialized RJ10 ∈ gtbl := gm (tm1 6 rfl) rfl
theorem wk_1_7 : Cond.initialized RX2 ∈ gtbl := gm (tm1 7 rfl) rfl
theorem wk_1_8 : Cond.initialized RX4 ∈ gtbl := gm (tm1 8 rfl) rfl
theorem wk_1_9 : Cond.initialized RX3 ∈ gtbl := gm (tm1 9 rfl) rfl
theorem wk_1_10 : Cond.initialized RX7 ∈ gtbl := gm (tm1 10 rfl) rfl
theorem wk_1_11 : Cond.initialized RJ7 ∈ gtbl := gm (tm1 11 rfl) rfl
theorem wk_1_12 : Cond.initialized RJ13 ∈ gtbl := gm (tm1 12 rfl) rfl
theorem wk_1_13 : Cond.classLink RL 7 RX6 ∈ gtbl := gm (tm1 13 rfl) rfl
theorem wk_1_14 : Cond.instantiable RX6 6 ∈ gtbl := gm (tm1 14 rfl) rfl
theorem wk_1_15 : Cond.methodLink RL 9 yX6_init ∈ gtbl := gm (tm1 15 rfl) rfl
theorem wk_1_16 : Cond.instanceMethod yX6_init ∈ gtbl := gm (tm1 16 rfl) rfl
theorem wk_1_17 : Cond.code yX6_init cX6_init 1 none ∈ gtbl := gm (tm1 17 rfl) rfl
theorem wk_1_18 : Cond.methodLink RX6 1 objectInit ∈ gtbl := gm (tm1 18 rfl) rfl
theorem wk_1_19 : Cond.instanceMethod objectInit ∈ gtbl := gm (tm1 19 rfl) rfl
theorem wk_1_20 : Cond.code objectInit ⟨#[0xb1]⟩ 1 none ∈ gtbl := gm (tm1 20 rfl) rfl
theorem wk_1_21 : Cond.classLink RX6 7 RX5 ∈ gtbl := gm (tm1 21 rfl) rfl
theorem wk_1_22 : Cond.instantiable RX5 5 ∈ gtbl := gm (tm1 22 rfl) rfl
theorem wk_1_23 : Cond.methodLinkNest RX6 9 yX5_init RX6 ∈ nestW := nm (tm1 23 rfl) rfl
theorem wk_1_24 : Cond.instanceMethod yX5_init ∈ gtbl := gm (tm1 24 rfl) rfl
theorem wk_1_25 : Cond.code yX5_init cX5_init 1 none ∈ gtbl := gm (tm1 25 rfl) rfl
theorem wk_1_26 : Cond.methodLink RX5 3 objectInit ∈ gtbl := gm (tm1 26 rfl) rfl
theorem wk_1_27 : Cond.fieldLink RX5 9 "GlassJar$Tape" "bytes" "[I" ∈ gtbl := gm (tm1 27 rfl) rfl
theorem wk_1_28 : Cond.fieldLink RX5 15 "GlassJar$Tape" "length" "I" ∈ gtbl := gm (tm1 28 rfl) rfl
theorem wk_1_29 : Cond.fieldLinkNest RX6 57 "GlassJar$Tape" "length" "I" RX6 ∈ nestW := nm (tm1 29 rfl) rfl
theorem wk_1_30 : Cond.fieldLink RX5 19 "GlassJar$Tape" "kind" "I" ∈ gtbl := gm (tm1 30 rfl) rfl
theorem wk_1_31 : Cond.fieldLinkNest RX6 77 "GlassJar$Tape" "kind" "I" RX6 ∈ nestW := nm (tm1 31 rfl) rfl
theorem wk_1_32 : Cond.fieldLink RX5 22 "GlassJar$Tape" "birthday" "I" ∈ gtbl := gm (tm1 32 rfl) rfl
theorem wk_1_33 : Cond.fieldLinkNest RX6 80 "GlassJar$Tape" "birthday" "I" RX6 ∈ nestW := nm (tm1 33 rfl) rfl
theorem wk_1_34 : Cond.fieldLink RX5 25 "GlassJar$Tape" "pay" "I" ∈ gtbl := gm (tm1 34 rfl) rfl
theorem wk_1_35 : Cond.fieldLinkNest RX6 83 "GlassJar$Tape" "pay" "I" RX6 ∈ nestW := nm (tm1 35 rfl) rfl
theorem wk_1_36 : Cond.laysFinal RX5 "GlassJar$Tape" "bytes" "[I" ∈ gtbl := gm (tm1 36 rfl) rfl
theorem wk_1_38 : Cond.lays RX5 "GlassJar$Tape" "length" "I" ∈ gtbl := gm (tm1 38 rfl) rfl
theorem wk_1_40 : Cond.lays RX5 "GlassJar$Tape" "kind" "I" ∈ gtbl := gm (tm1 40 rfl) rfl
theorem wk_1_42 : Cond.lays RX5 "GlassJar$Tape" "birthday" "I" ∈ gtbl := gm (tm1 42 rfl) rfl
theorem wk_1_44 : Cond.lays RX5 "GlassJar$Tape" "pay" "I" ∈ gtbl := gm (tm1 44 rfl) rfl
theorem wk_1_47 : Cond.arrayClass .int ∈ gtbl := gm (tm1 47 rfl) rfl
theorem wk_1_48 : Cond.classLink RX6 16 RX1 ∈ gtbl := gm (tm1 48 rfl) rfl
theorem wk_1_49 : Cond.instantiable RX1 8 ∈ gtbl := gm (tm1 49 rfl) rfl
theorem wk_1_50 : Cond.methodLinkNest RX6 18 yX1_init RX6 ∈ nestW := nm (tm1 50 rfl) rfl
theorem wk_1_51 : Cond.instanceMethod yX1_init ∈ gtbl := gm (tm1 51 rfl) rfl
theorem wk_1_52 : Cond.code yX1_init cX1_init 1 none ∈ gtbl := gm (tm1 52 rfl) rfl
theorem wk_1_53 : Cond.methodLink RX1 3 objectInit ∈ gtbl := gm (tm1 53 rfl) rfl
theorem wk_1_54 : Cond.classLink RX1 9 RX0 ∈ gtbl := gm (tm1 54 rfl) rfl
theorem wk_1_55 : Cond.instantiable RX0 10 ∈ gtbl := gm (tm1 55 rfl) rfl
theorem wk_1_56 : Cond.methodLinkNest RX1 11 yX0_init RX6 ∈ nestW := nm (tm1 56 rfl) rfl
theorem wk_1_57 : Cond.instanceMethod yX0_init ∈ gtbl := gm (tm1 57 rfl) rfl
theorem wk_1_58 : Cond.code yX0_init cX0_init 1 none ∈ gtbl := gm (tm1 58 rfl) rfl
theorem wk_1_59 : Cond.methodLink RX0 3 objectInit ∈ gtbl := gm (tm1 59 rfl) rfl
theorem wk_1_60 : Cond.methodLink RX0 45 yX0_draw ∈ gtbl := gm (tm1 60 rfl) rfl
theorem wk_1_62 : Cond.instanceMethod yX0_draw ∈ gtbl := gm (tm1 62 rfl) rfl
theorem wk_1_63 : Cond.code yX0_draw cX0_draw 1 none ∈ gtbl := gm (tm1 63 rfl) rfl
theorem wk_1_64 : Cond.methodLink RX0 52 yX0_layDays ∈ gtbl := gm (tm1 64 rfl) rfl
theorem wk_1_66 : Cond.instanceMethod yX0_layDays ∈ gtbl := gm (tm1 66 rfl) rfl
theorem wk_1_67 : Cond.code yX0_layDays cX0_layDays 2 none ∈ gtbl := gm (tm1 67 rfl) rfl
theorem wk_1_68 : Cond.methodLinkNest RX0 67 yX6_put RX6 ∈ nestW := nm (tm1 68 rfl) rfl
theorem wk_1_69 : Cond.static yX6_put ∈ gtbl := gm (tm1 69 rfl) rfl
theorem wk_1_70 : Cond.code yX6_put cX6_put 3 none ∈ gtbl := gm (tm1 70 rfl) rfl
theorem wk_1_71 : Cond.methodLink RX0 55 yX0_shakeRow ∈ gtbl := gm (tm1 71 rfl) rfl
theorem wk_1_73 : Cond.instanceMethod yX0_shakeRow ∈ gtbl := gm (tm1 73 rfl) rfl
theorem wk_1_74 : Cond.code yX0_shakeRow cX0_shakeRow 4 none ∈ gtbl := gm (tm1 74 rfl) rfl
theorem wk_1_75 : Cond.methodLink RX0 71 yX0_lot ∈ gtbl := gm (tm1 75 rfl) rfl
theorem wk_1_77 : Cond.instanceMethod yX0_lot ∈ gtbl := gm (tm1 77 rfl) rfl
theorem wk_1_78 : Cond.code yX0_lot cX0_lot 2 (some .int) ∈ gtbl := gm (tm1 78 rfl) rfl
theorem wk_1_79 : Cond.constant RX0 64 (1664525 : Int32) ∈ gtbl := gm (tm1 79 rfl) rfl
theorem wk_1_80 : Cond.constant RX0 65 (1013904223 : Int32) ∈ gtbl := gm (tm1 80 rfl) rfl
theorem wk_1_81 : Cond.constant RX0 66 (2147483647 : Int32) ∈ gtbl := gm (tm1 81 rfl) rfl
theorem wk_1_82 : Cond.methodLink RX0 75 yJ9_min_7cf53 ∈ gtbl := gm (tm1 82 rfl) rfl
theorem wk_1_83 : Cond.static yJ9_min_7cf53 ∈ gtbl := gm (tm1 83 rfl) rfl
theorem wk_1_84 : Cond.code yJ9_min_7cf53 cJ9_min_7cf53 2 (some .int) ∈ gtbl := gm (tm1 84 rfl) rfl
theorem wk_1_85 : Cond.methodLink RX0 81 yJ9_max_7cf53 ∈ gtbl := gm (tm1 85 rfl) rfl
theorem wk_1_86 : Cond.static yJ9_max_7cf53 ∈ gtbl := gm (tm1 86 rfl) rfl
theorem wk_1_87 : Cond.code yJ9_max_7cf53 cJ9_max_7cf53 2 (some .int) ∈ gtbl := gm (tm1 87 rfl) rfl
theorem wk_1_88 : Cond.methodLink RX0 84 yX0_swap ∈ gtbl := gm (tm1 88 rfl) rfl
theorem wk_1_90 : Cond.instanceMethod yX0_swap ∈ gtbl := gm (tm1 90 rfl) rfl
theorem wk_1_91 : Cond.code yX0_swap cX0_swap 4 none ∈ gtbl := gm (tm1 91 rfl) rfl
theorem wk_1_92 : Cond.methodLinkNest RX0 88 yX6_at RX6 ∈ nestW := nm (tm1 92 rfl) rfl
theorem wk_1_93 : Cond.static yX6_at ∈ gtbl := gm (tm1 93 rfl) rfl
theorem wk_1_94 : Cond.code yX6_at cX6_at 2 (some .int) ∈ gtbl := gm (tm1 94 rfl) rfl
theorem wk_1_95 : Cond.methodLink RX0 58 yX0_turnRow ∈ gtbl := gm (tm1 95 rfl) rfl
theorem wk_1_97 : Cond.instanceMethod yX0_turnRow ∈ gtbl := gm (tm1 97 rfl) rfl
theorem wk_1_98 : Cond.code yX0_turnRow cX0_turnRow 2 none ∈ gtbl := gm (tm1 98 rfl) rfl
theorem wk_1_99 : Cond.methodLink RX0 61 yX0_drawRow ∈ gtbl := gm (tm1 99 rfl) rfl
theorem wk_1_101 : Cond.instanceMethod yX0_drawRow ∈ gtbl := gm (tm1 101 rfl) rfl
theorem wk_1_102 : Cond.code yX0_drawRow cX0_drawRow 6 none ∈ gtbl := gm (tm1 102 rfl) rfl
theorem wk_1_103 : Cond.methodLink RX0 92 yX0_closeGap ∈ gtbl := gm (tm1 103 rfl) rfl
theorem wk_1_105 : Cond.instanceMethod yX0_closeGap ∈ gtbl := gm (tm1 105 rfl) rfl
theorem wk_1_106 : Cond.code yX0_closeGap cX0_closeGap 3 none ∈ gtbl := gm (tm1 106 rfl) rfl
theorem wk_1_107 : Cond.methodLink RX0 95 arraycopyName ∈ gtbl := gm (tm1 107 rfl) rfl
theorem wk_1_108 : Cond.static arraycopyName ∈ gtbl := gm (tm1 108 rfl) rfl
theorem wk_1_109 : Cond.native arraycopyName ∈ gtbl := gm (tm1 109 rfl) rfl
theorem wk_1_110 : Cond.fieldLink RX0 9 "GlassJar$Jar" "seed" "I" ∈ gtbl := gm (tm1 110 rfl) rfl
theorem wk_1_111 : Cond.fieldLink RX0 15 "GlassJar$Jar" "shakes" "I" ∈ gtbl := gm (tm1 111 rfl) rfl
theorem wk_1_112 : Cond.fieldLink RX0 18 "GlassJar$Jar" "spread" "I" ∈ gtbl := gm (tm1 112 rfl) rfl
theorem wk_1_113 : Cond.fieldLink RX0 21 "GlassJar$Jar" "depth" "I" ∈ gtbl := gm (tm1 113 rfl) rfl
theorem wk_1_114 : Cond.fieldLink RX0 24 "GlassJar$Jar" "poured" "Z" ∈ gtbl := gm (tm1 114 rfl) rfl
theorem wk_1_115 : Cond.fieldLink RX0 28 "GlassJar$Jar" "numberOfDay" "[I" ∈ gtbl := gm (tm1 115 rfl) rfl
theorem wk_1_116 : Cond.fieldLink RX0 32 "GlassJar$Jar" "dayOfNumber" "[I" ∈ gtbl := gm (tm1 116 rfl) rfl
theorem wk_1_117 : Cond.fieldLink RX0 35 "GlassJar$Jar" "row" "[I" ∈ gtbl := gm (tm1 117 rfl) rfl
theorem wk_1_118 : Cond.fieldLink RX0 38 "GlassJar$Jar" "seen" "[J" ∈ gtbl := gm (tm1 118 rfl) rfl
theorem wk_1_119 : Cond.fieldLink RX0 42 "GlassJar$Jar" "lotState" "I" ∈ gtbl := gm (tm1 119 rfl) rfl
theorem wk_1_120 : Cond.lays RX0 "GlassJar$Jar" "seed" "I" ∈ gtbl := gm (tm1 120 rfl) rfl
theorem wk_1_122 : Cond.lays RX0 "GlassJar$Jar" "shakes" "I" ∈ gtbl := gm (tm1 122 rfl) rfl
theorem wk_1_124 : Cond.lays RX0 "GlassJar$Jar" "spread" "I" ∈ gtbl := gm (tm1 124 rfl) rfl
theorem wk_1_126 : Cond.lays RX0 "GlassJar$Jar" "depth" "I" ∈ gtbl := gm (tm1 126 rfl) rfl
theorem wk_1_128 : Cond.lays RX0 "GlassJar$Jar" "poured" "Z" ∈ gtbl := gm (tm1 128 rfl) rfl
theorem wk_1_130 : Cond.laysFinal RX0 "GlassJar$Jar" "numberOfDay" "[I" ∈ gtbl := gm (tm1 130 rfl) rfl
theorem wk_1_132 : Cond.laysFinal RX0 "GlassJar$Jar" "dayOfNumber" "[I" ∈ gtbl := gm (tm1 132 rfl) rfl
theorem wk_1_134 : Cond.laysFinal RX0 "GlassJar$Jar" "row" "[I" ∈ gtbl := gm (tm1 134 rfl) rfl
theorem wk_1_136 : Cond.laysFinal RX0 "GlassJar$Jar" "seen" "[J" ∈ gtbl := gm (tm1 136 rfl) rfl
theorem wk_1_138 : Cond.lays RX0 "GlassJar$Jar" "lotState" "I" ∈ gtbl := gm (tm1 138 rfl) rfl
theorem wk_1_141 : Cond.arrayClass .long ∈ gtbl := gm (tm1 141 rfl) rfl
theorem wk_1_142 : Cond.classLink RX1 21 RX2 ∈ gtbl := gm (tm1 142 rfl) rfl
theorem wk_1_143 : Cond.instantiable RX2 4 ∈ gtbl := gm (tm1 143 rfl) rfl
theorem wk_1_144 : Cond.methodLinkNest RX1 23 yX2_init RX6 ∈ nestW := nm (tm1 144 rfl) rfl
theorem wk_1_145 : Cond.instanceMethod yX2_init ∈ gtbl := gm (tm1 145 rfl) rfl
theorem wk_1_146 : Cond.code yX2_init cX2_init 1 none ∈ gtbl := gm (tm1 146 rfl) rfl
theorem wk_1_147 : Cond.methodLink RX2 3 objectInit ∈ gtbl := gm (tm1 147 rfl) rfl
theorem wk_1_148 : Cond.fieldLink RX2 9 "GlassJar$Men" "kinds" "[I" ∈ gtbl := gm (tm1 148 rfl) rfl
theorem wk_1_149 : Cond.fieldLink RX2 15 "GlassJar$Men" "birthdays" "[I" ∈ gtbl := gm (tm1 149 rfl) rfl
theorem wk_1_150 : Cond.fieldLink RX2 18 "GlassJar$Men" "pays" "[I" ∈ gtbl := gm (tm1 150 rfl) rfl
theorem wk_1_151 : Cond.fieldLink RX2 21 "GlassJar$Men" "size" "I" ∈ gtbl := gm (tm1 151 rfl) rfl
theorem wk_1_152 : Cond.fieldLinkNest RX6 65 "GlassJar$Men" "size" "I" RX6 ∈ nestW := nm (tm1 152 rfl) rfl
theorem wk_1_153 : Cond.fieldLinkNest RX1 98 "GlassJar$Men" "size" "I" RX6 ∈ nestW := nm (tm1 153 rfl) rfl
theorem wk_1_154 : Cond.laysFinal RX2 "GlassJar$Men" "kinds" "[I" ∈ gtbl := gm (tm1 154 rfl) rfl
theorem wk_1_156 : Cond.laysFinal RX2 "GlassJar$Men" "birthdays" "[I" ∈ gtbl := gm (tm1 156 rfl) rfl
theorem wk_1_158 : Cond.laysFinal RX2 "GlassJar$Men" "pays" "[I" ∈ gtbl := gm (tm1 158 rfl) rfl
theorem wk_1_160 : Cond.lays RX2 "GlassJar$Men" "size" "I" ∈ gtbl := gm (tm1 160 rfl) rfl
theorem wk_1_163 : Cond.fieldLinkNest RX1 28 "GlassJar" "FIRST_LAWS" "[I" RX6 ∈ nestW := nm (tm1 163 rfl) rfl
theorem wk_1_164 : Cond.laysStatic "GlassJar" "FIRST_LAWS" "[I" ∈ tables_1 := tm1 164 rfl
theorem wk_1_165 : Cond.methodLink RX1 32 ⟨"[I", "clone", "()Ljava/lang/Object;"⟩ ∈ gtbl := gm (tm1 165 rfl) rfl
theorem wk_1_166 : Cond.sameMethod "[I" "java/lang/Object" "clone" "()Ljava/lang/Object;" ∈ tables_1 := tm1 166 rfl
theorem wk_1_167 : Cond.native ⟨"java/lang/Object", "clone", "()Ljava/lang/Object;"⟩ ∈ gtbl := gm (tm1 167 rfl) rfl
theorem wk_1_168 : Cond.instanceMethod ⟨"java/lang/Object", "clone", "()Ljava/lang/Object;"⟩ ∈ gtbl := gm (tm1 168 rfl) rfl
theorem wk_1_169 : Cond.selects "[I" ⟨"[I", "clone", "()Ljava/lang/Object;"⟩ ⟨"java/lang/Object", "clone", "()Ljava/lang/Object;"⟩ ∈ gtbl := gm (tm1 169 rfl) rfl
theorem wk_1_170 : Cond.castable "[I" "java/lang/Cloneable" ∈ tables_1 := tm1 170 rfl
theorem wk_1_171 : Cond.classLink RX1 33 "[I" ∈ gtbl := gm (tm1 171 rfl) rfl
theorem wk_1_172 : Cond.classLink RX1 47 RX4 ∈ gtbl := gm (tm1 172 rfl) rfl
theorem wk_1_173 : Cond.instantiable RX4 4 ∈ gtbl := gm (tm1 173 rfl) rfl
theorem wk_1_174 : Cond.methodLinkNest RX1 49 yX4_init RX6 ∈ nestW := nm (tm1 174 rfl) rfl
theorem wk_1_175 : Cond.instanceMethod yX4_init ∈ gtbl := gm (tm1 175 rfl) rfl
theorem wk_1_176 : Cond.code yX4_init cX4_init 1 none ∈ gtbl := gm (tm1 176 rfl) rfl
theorem wk_1_177 : Cond.methodLink RX4 1 objectInit ∈ gtbl := gm (tm1 177 rfl) rfl
theorem wk_1_178 : Cond.fieldLink RX4 7 "GlassJar$Sides" "calledSum" "J" ∈ gtbl := gm (tm1 178 rfl) rfl
theorem wk_1_179 : Cond.fieldLink RX4 13 "GlassJar$Sides" "otherSum" "J" ∈ gtbl := gm (tm1 179 rfl) rfl
theorem wk_1_180 : Cond.fieldLink RX4 16 "GlassJar$Sides" "calledMen" "I" ∈ gtbl := gm (tm1 180 rfl) rfl
theorem wk_1_181 : Cond.fieldLink RX4 20 "GlassJar$Sides" "otherMen" "I" ∈ gtbl := gm (tm1 181 rfl) rfl
theorem wk_1_182 : Cond.lays RX4 "GlassJar$Sides" "calledSum" "J" ∈ gtbl := gm (tm1 182 rfl) rfl
theorem wk_1_184 : Cond.lays RX4 "GlassJar$Sides" "otherSum" "J" ∈ gtbl := gm (tm1 184 rfl) rfl
theorem wk_1_186 : Cond.lays RX4 "GlassJar$Sides" "calledMen" "I" ∈ gtbl := gm (tm1 186 rfl) rfl
theorem wk_1_188 : Cond.lays RX4 "GlassJar$Sides" "otherMen" "I" ∈ gtbl := gm (tm1 188 rfl) rfl
theorem wk_1_191 : Cond.classLink RX1 54 RX3 ∈ gtbl := gm (tm1 191 rfl) rfl
theorem wk_1_192 : Cond.instantiable RX3 2 ∈ gtbl := gm (tm1 192 rfl) rfl
theorem wk_1_193 : Cond.methodLinkNest RX1 56 yX3_init RX6 ∈ nestW := nm (tm1 193 rfl) rfl
theorem wk_1_194 : Cond.instanceMethod yX3_init ∈ gtbl := gm (tm1 194 rfl) rfl
theorem wk_1_195 : Cond.code yX3_init cX3_init 1 none ∈ gtbl := gm (tm1 195 rfl) rfl
theorem wk_1_196 : Cond.methodLink RX3 1 objectInit ∈ gtbl := gm (tm1 196 rfl) rfl
theorem wk_1_197 : Cond.fieldLink RX3 7 "GlassJar$Ratio" "above" "J" ∈ gtbl := gm (tm1 197 rfl) rfl
theorem wk_1_198 : Cond.fieldLinkNest RX1 146 "GlassJar$Ratio" "above" "J" RX6 ∈ nestW := nm (tm1 198 rfl) rfl
theorem wk_1_199 : Cond.fieldLink RX3 13 "GlassJar$Ratio" "below" "J" ∈ gtbl := gm (tm1 199 rfl) rfl
theorem wk_1_200 : Cond.fieldLinkNest RX1 154 "GlassJar$Ratio" "below" "J" RX6 ∈ nestW := nm (tm1 200 rfl) rfl
theorem wk_1_201 : Cond.lays RX3 "GlassJar$Ratio" "above" "J" ∈ gtbl := gm (tm1 201 rfl) rfl
theorem wk_1_203 : Cond.lays RX3 "GlassJar$Ratio" "below" "J" ∈ gtbl := gm (tm1 203 rfl) rfl
theorem wk_1_206 : Cond.fieldLink RX1 12 "GlassJar$Lottery" "firstJar" "LGlassJar$Jar;" ∈ gtbl := gm (tm1 206 rfl) rfl
theorem wk_1_207 : Cond.fieldLink RX1 18 "GlassJar$Lottery" "secondJar" "LGlassJar$Jar;" ∈ gtbl := gm (tm1 207 rfl) rfl
theorem wk_1_208 : Cond.fieldLink RX1 24 "GlassJar$Lottery" "men" "LGlassJar$Men;" ∈ gtbl := gm (tm1 208 rfl) rfl
theorem wk_1_209 : Cond.fieldLinkNest RX6 61 "GlassJar$Lottery" "men" "LGlassJar$Men;" RX6 ∈ nestW := nm (tm1 209 rfl) rfl
theorem wk_1_210 : Cond.fieldLink RX1 37 "GlassJar$Lottery" "laws" "[I" ∈ gtbl := gm (tm1 210 rfl) rfl
theorem wk_1_211 : Cond.fieldLinkNest RX6 168 "GlassJar$Lottery" "laws" "[I" RX6 ∈ nestW := nm (tm1 211 rfl) rfl
theorem wk_1_212 : Cond.fieldLink RX1 40 "GlassJar$Lottery" "cutNumber" "I" ∈ gtbl := gm (tm1 212 rfl) rfl
theorem wk_1_213 : Cond.fieldLinkNest RX6 158 "GlassJar$Lottery" "cutNumber" "I" RX6 ∈ nestW := nm (tm1 213 rfl) rfl
theorem wk_1_214 : Cond.fieldLink RX1 44 "GlassJar$Lottery" "leastMen" "I" ∈ gtbl := gm (tm1 214 rfl) rfl
theorem wk_1_215 : Cond.fieldLinkNest RX6 218 "GlassJar$Lottery" "leastMen" "I" RX6 ∈ nestW := nm (tm1 215 rfl) rfl
theorem wk_1_216 : Cond.fieldLink RX1 50 "GlassJar$Lottery" "sides" "LGlassJar$Sides;" ∈ gtbl := gm (tm1 216 rfl) rfl
theorem wk_1_217 : Cond.fieldLink RX1 57 "GlassJar$Lottery" "shareRatio" "LGlassJar$Ratio;" ∈ gtbl := gm (tm1 217 rfl) rfl
theorem wk_1_218 : Cond.laysFinal RX1 "GlassJar$Lottery" "firstJar" "LGlassJar$Jar;" ∈ gtbl := gm (tm1 218 rfl) rfl
theorem wk_1_220 : Cond.laysFinal RX1 "GlassJar$Lottery" "secondJar" "LGlassJar$Jar;" ∈ gtbl := gm (tm1 220 rfl) rfl
theorem wk_1_222 : Cond.laysFinal RX1 "GlassJar$Lottery" "men" "LGlassJar$Men;" ∈ gtbl := gm (tm1 222 rfl) rfl
theorem wk_1_224 : Cond.laysFinal RX1 "GlassJar$Lottery" "laws" "[I" ∈ gtbl := gm (tm1 224 rfl) rfl
theorem wk_1_226 : Cond.lays RX1 "GlassJar$Lottery" "cutNumber" "I" ∈ gtbl := gm (tm1 226 rfl) rfl
theorem wk_1_228 : Cond.lays RX1 "GlassJar$Lottery" "leastMen" "I" ∈ gtbl := gm (tm1 228 rfl) rfl
theorem wk_1_230 : Cond.laysFinal RX1 "GlassJar$Lottery" "sides" "LGlassJar$Sides;" ∈ gtbl := gm (tm1 230 rfl) rfl
theorem wk_1_232 : Cond.laysFinal RX1 "GlassJar$Lottery" "shareRatio" "LGlassJar$Ratio;" ∈ gtbl := gm (tm1 232 rfl) rfl
theorem wk_1_235 : Cond.classLink RX6 34 RX3 ∈ gtbl := gm (tm1 235 rfl) rfl
theorem wk_1_236 : Cond.methodLinkNest RX6 36 yX3_init RX6 ∈ nestW := nm (tm1 236 rfl) rfl
theorem wk_1_237 : Cond.fieldLink RX6 10 "GlassJar" "tape" "LGlassJar$Tape;" ∈ gtbl := gm (tm1 237 rfl) rfl
theorem wk_1_238 : Cond.fieldLink RX6 19 "GlassJar" "now" "LGlassJar$Lottery;" ∈ gtbl := gm (tm1 238 rfl) rfl
theorem wk_1_239 : Cond.fieldLink RX6 23 "GlassJar" "then" "LGlassJar$Lottery;" ∈ gtbl := gm (tm1 239 rfl) rfl
theorem wk_2_0 : Cond.fieldLink RX6 26 "GlassJar" "imageTaken" "Z" ∈ gtbl := gm (tm2 0 rfl) rfl
theorem wk_2_1 : Cond.fieldLink RX6 30 "GlassJar" "refusals" "[I" ∈ gtbl := gm (tm2 1 rfl) rfl
theorem wk_2_2 : Cond.fieldLink RX6 37 "GlassJar" "ratio" "LGlassJar$Ratio;" ∈ gtbl := gm (tm2 2 rfl) rfl
theorem wk_2_3 : Cond.laysFinal RX6 "GlassJar" "tape" "LGlassJar$Tape;" ∈ gtbl := gm (tm2 3 rfl) rfl
theorem wk_2_5 : Cond.laysFinal RX6 "GlassJar" "now" "LGlassJar$Lottery;" ∈ gtbl := gm (tm2 5 rfl) rfl
theorem wk_2_7 : Cond.laysFinal RX6 "GlassJar" "then" "LGlassJar$Lottery;" ∈ gtbl := gm (tm2 7 rfl) rfl
theorem wk_2_9 : Cond.lays RX6 "GlassJar" "imageTaken" "Z" ∈ gtbl := gm (tm2 9 rfl) rfl
theorem wk_2_11 : Cond.laysFinal RX6 "GlassJar" "refusals" "[I" ∈ gtbl := gm (tm2 11 rfl) rfl
theorem wk_2_13 : Cond.laysFinal RX6 "GlassJar" "ratio" "LGlassJar$Ratio;" ∈ gtbl := gm (tm2 13 rfl) rfl
theorem wk_2_16 : Cond.methodLink RL 15 yX6_feed ∈ gtbl := gm (tm2 16 rfl) rfl
theorem wk_2_17 : Cond.instanceMethod yX6_feed ∈ gtbl := gm (tm2 17 rfl) rfl
theorem wk_2_18 : Cond.selects RX6 yX6_feed yX6_feed ∈ gtbl := gm (tm2 18 rfl) rfl
theorem wk_2_19 : Cond.code yX6_feed cX6_feed 5 (some .int) ∈ gtbl := gm (tm2 19 rfl) rfl
theorem wk_2_20 : Cond.methodLinkNest RX6 41 yX5_hasRoomFor RX6 ∈ nestW := nm (tm2 20 rfl) rfl
theorem wk_2_22 : Cond.instanceMethod yX5_hasRoomFor ∈ gtbl := gm (tm2 22 rfl) rfl
theorem wk_2_23 : Cond.code yX5_hasRoomFor cX5_hasRoomFor 2 (some .boolean) ∈ gtbl := gm (tm2 23 rfl) rfl
theorem wk_2_24 : Cond.methodLink RX6 45 yX6_firstThatFits ∈ gtbl := gm (tm2 24 rfl) rfl
theorem wk_2_25 : Cond.static yX6_firstThatFits ∈ gtbl := gm (tm2 25 rfl) rfl
theorem wk_2_26 : Cond.code yX6_firstThatFits cX6_firstThatFits 4 (some .int) ∈ gtbl := gm (tm2 26 rfl) rfl
theorem wk_2_27 : Cond.methodLink RX6 49 yX6_refuse ∈ gtbl := gm (tm2 27 rfl) rfl
theorem wk_2_29 : Cond.instanceMethod yX6_refuse ∈ gtbl := gm (tm2 29 rfl) rfl
theorem wk_2_30 : Cond.code yX6_refuse cX6_refuse 2 (some .int) ∈ gtbl := gm (tm2 30 rfl) rfl
theorem wk_2_31 : Cond.methodLink RX6 164 yX6_at ∈ gtbl := gm (tm2 31 rfl) rfl
theorem wk_2_32 : Cond.methodLink RX6 171 yX6_put ∈ gtbl := gm (tm2 32 rfl) rfl
theorem wk_2_33 : Cond.methodLinkNest RX6 53 yX5_append RX6 ∈ nestW := nm (tm2 33 rfl) rfl
theorem wk_2_35 : Cond.instanceMethod yX5_append ∈ gtbl := gm (tm2 35 rfl) rfl
theorem wk_2_36 : Cond.code yX5_append cX5_append 5 none ∈ gtbl := gm (tm2 36 rfl) rfl
theorem wk_2_37 : Cond.methodLinkNest RX5 28 yX6_put RX6 ∈ nestW := nm (tm2 37 rfl) rfl
theorem wk_2_38 : Cond.methodLink RL 20 yX6_man ∈ gtbl := gm (tm2 38 rfl) rfl
theorem wk_2_39 : Cond.instanceMethod yX6_man ∈ gtbl := gm (tm2 39 rfl) rfl
theorem wk_2_40 : Cond.selects RX6 yX6_man yX6_man ∈ gtbl := gm (tm2 40 rfl) rfl
theorem wk_2_41 : Cond.code yX6_man cX6_man 2 (some .int) ∈ gtbl := gm (tm2 41 rfl) rfl
theorem wk_2_42 : Cond.methodLinkNest RX6 70 yX5_read RX6 ∈ nestW := nm (tm2 42 rfl) rfl
theorem wk_2_44 : Cond.instanceMethod yX5_read ∈ gtbl := gm (tm2 44 rfl) rfl
theorem wk_2_45 : Cond.code yX5_read cX5_read 4 (some .int) ∈ gtbl := gm (tm2 45 rfl) rfl
theorem wk_2_46 : Cond.methodLink RX5 32 yX5_byteAt ∈ gtbl := gm (tm2 46 rfl) rfl
theorem wk_2_48 : Cond.instanceMethod yX5_byteAt ∈ gtbl := gm (tm2 48 rfl) rfl
theorem wk_2_49 : Cond.code yX5_byteAt cX5_byteAt 2 (some .int) ∈ gtbl := gm (tm2 49 rfl) rfl
theorem wk_2_50 : Cond.methodLinkNest RX5 46 yX6_at RX6 ∈ nestW := nm (tm2 50 rfl) rfl
theorem wk_2_51 : Cond.methodLink RX5 36 yX5_kindOfLetter ∈ gtbl := gm (tm2 51 rfl) rfl
theorem wk_2_52 : Cond.static yX5_kindOfLetter ∈ gtbl := gm (tm2 52 rfl) rfl
theorem wk_2_53 : Cond.code yX5_kindOfLetter cX5_kindOfLetter 1 (some .int) ∈ gtbl := gm (tm2 53 rfl) rfl
theorem wk_2_54 : Cond.methodLink RX5 39 yX5_endOfDigits ∈ gtbl := gm (tm2 54 rfl) rfl
theorem wk_2_56 : Cond.instanceMethod yX5_endOfDigits ∈ gtbl := gm (tm2 56 rfl) rfl
theorem wk_2_57 : Cond.code yX5_endOfDigits cX5_endOfDigits 4 (some .int) ∈ gtbl := gm (tm2 57 rfl) rfl
theorem wk_2_58 : Cond.methodLink RX5 50 yX5_isDigit ∈ gtbl := gm (tm2 58 rfl) rfl
theorem wk_2_60 : Cond.instanceMethod yX5_isDigit ∈ gtbl := gm (tm2 60 rfl) rfl
theorem wk_2_61 : Cond.code yX5_isDigit cX5_isDigit 2 (some .boolean) ∈ gtbl := gm (tm2 61 rfl) rfl
theorem wk_2_62 : Cond.methodLink RX5 43 yX5_valueOf ∈ gtbl := gm (tm2 62 rfl) rfl
theorem wk_2_64 : Cond.instanceMethod yX5_valueOf ∈ gtbl := gm (tm2 64 rfl) rfl
theorem wk_2_65 : Cond.code yX5_valueOf cX5_valueOf 5 (some .int) ∈ gtbl := gm (tm2 65 rfl) rfl
theorem wk_2_66 : Cond.methodLinkNest RX6 74 yX5_empty RX6 ∈ nestW := nm (tm2 66 rfl) rfl
theorem wk_2_68 : Cond.instanceMethod yX5_empty ∈ gtbl := gm (tm2 68 rfl) rfl
theorem wk_2_69 : Cond.code yX5_empty cX5_empty 1 none ∈ gtbl := gm (tm2 69 rfl) rfl
theorem wk_2_70 : Cond.methodLinkNest RX6 86 yX2_enrol RX6 ∈ nestW := nm (tm2 70 rfl) rfl
theorem wk_2_72 : Cond.instanceMethod yX2_enrol ∈ gtbl := gm (tm2 72 rfl) rfl
theorem wk_2_73 : Cond.code yX2_enrol cX2_enrol 5 (some .int) ∈ gtbl := gm (tm2 73 rfl) rfl
theorem wk_2_74 : Cond.methodLinkNest RX2 25 yX6_put RX6 ∈ nestW := nm (tm2 74 rfl) rfl
theorem wk_2_75 : Cond.methodLink RL 25 yX6_jar ∈ gtbl := gm (tm2 75 rfl) rfl
theorem wk_2_76 : Cond.instanceMethod yX6_jar ∈ gtbl := gm (tm2 76 rfl) rfl
theorem wk_2_77 : Cond.selects RX6 yX6_jar yX6_jar ∈ gtbl := gm (tm2 77 rfl) rfl
theorem wk_2_78 : Cond.code yX6_jar cX6_jar 7 (some .int) ∈ gtbl := gm (tm2 78 rfl) rfl
theorem wk_2_79 : Cond.methodLink RX6 90 yX6_isJar ∈ gtbl := gm (tm2 79 rfl) rfl
theorem wk_2_80 : Cond.static yX6_isJar ∈ gtbl := gm (tm2 80 rfl) rfl
theorem wk_2_81 : Cond.code yX6_isJar cX6_isJar 1 (some .boolean) ∈ gtbl := gm (tm2 81 rfl) rfl
theorem wk_2_82 : Cond.methodLinkNest RX6 93 yX1_jarAt RX6 ∈ nestW := nm (tm2 82 rfl) rfl
theorem wk_2_84 : Cond.instanceMethod yX1_jarAt ∈ gtbl := gm (tm2 84 rfl) rfl
theorem wk_2_85 : Cond.code yX1_jarAt cX1_jarAt 2 (some (.object "GlassJar$Jar")) ∈ gtbl := gm (tm2 85 rfl) rfl
theorem wk_2_86 : Cond.methodLinkNest RX6 97 yX0_prepare RX6 ∈ nestW := nm (tm2 86 rfl) rfl
theorem wk_2_88 : Cond.instanceMethod yX0_prepare ∈ gtbl := gm (tm2 88 rfl) rfl
theorem wk_2_89 : Cond.code yX0_prepare cX0_prepare 5 none ∈ gtbl := gm (tm2 89 rfl) rfl
theorem wk_2_90 : Cond.methodLink RL 30 yX6_pour ∈ gtbl := gm (tm2 90 rfl) rfl
theorem wk_2_91 : Cond.instanceMethod yX6_pour ∈ gtbl := gm (tm2 91 rfl) rfl
theorem wk_2_92 : Cond.selects RX6 yX6_pour yX6_pour ∈ gtbl := gm (tm2 92 rfl) rfl
theorem wk_2_93 : Cond.code yX6_pour cX6_pour 3 (some .int) ∈ gtbl := gm (tm2 93 rfl) rfl
theorem wk_2_94 : Cond.methodLinkNest RX6 103 yX0_turnOver RX6 ∈ nestW := nm (tm2 94 rfl) rfl
theorem wk_2_96 : Cond.instanceMethod yX0_turnOver ∈ gtbl := gm (tm2 96 rfl) rfl
theorem wk_2_97 : Cond.code yX0_turnOver cX0_turnOver 2 (some .boolean) ∈ gtbl := gm (tm2 97 rfl) rfl
theorem wk_2_98 : Cond.methodLink RL 35 yX6_number ∈ gtbl := gm (tm2 98 rfl) rfl
theorem wk_2_99 : Cond.instanceMethod yX6_number ∈ gtbl := gm (tm2 99 rfl) rfl
theorem wk_2_100 : Cond.selects RX6 yX6_number yX6_number ∈ gtbl := gm (tm2 100 rfl) rfl
theorem wk_2_101 : Cond.code yX6_number cX6_number 3 (some .int) ∈ gtbl := gm (tm2 101 rfl) rfl
theorem wk_2_102 : Cond.methodLinkNest RX6 107 yX0_numberAt RX6 ∈ nestW := nm (tm2 102 rfl) rfl
theorem wk_2_104 : Cond.instanceMethod yX0_numberAt ∈ gtbl := gm (tm2 104 rfl) rfl
theorem wk_2_105 : Cond.code yX0_numberAt cX0_numberAt 2 (some .int) ∈ gtbl := gm (tm2 105 rfl) rfl
theorem wk_2_106 : Cond.methodLink RL 40 yX6_dayOf ∈ gtbl := gm (tm2 106 rfl) rfl
theorem wk_2_107 : Cond.instanceMethod yX6_dayOf ∈ gtbl := gm (tm2 107 rfl) rfl
theorem wk_2_108 : Cond.selects RX6 yX6_dayOf yX6_dayOf ∈ gtbl := gm (tm2 108 rfl) rfl
theorem wk_2_109 : Cond.code yX6_dayOf cX6_dayOf 4 (some .int) ∈ gtbl := gm (tm2 109 rfl) rfl
theorem wk_2_110 : Cond.methodLinkNest RX6 110 yX0_dayAt RX6 ∈ nestW := nm (tm2 110 rfl) rfl
theorem wk_2_112 : Cond.instanceMethod yX0_dayAt ∈ gtbl := gm (tm2 112 rfl) rfl
theorem wk_2_113 : Cond.code yX0_dayAt cX0_dayAt 2 (some .int) ∈ gtbl := gm (tm2 113 rfl) rfl
theorem wk_2_114 : Cond.methodLink RL 44 yX6_mean ∈ gtbl := gm (tm2 114 rfl) rfl
theorem wk_2_115 : Cond.instanceMethod yX6_mean ∈ gtbl := gm (tm2 115 rfl) rfl
theorem wk_2_116 : Cond.selects RX6 yX6_mean yX6_mean ∈ gtbl := gm (tm2 116 rfl) rfl
theorem wk_2_117 : Cond.code yX6_mean cX6_mean 5 (some .long) ∈ gtbl := gm (tm2 117 rfl) rfl
theorem wk_2_118 : Cond.methodLink RX6 113 yX6_isMonth ∈ gtbl := gm (tm2 118 rfl) rfl
theorem wk_2_119 : Cond.static yX6_isMonth ∈ gtbl := gm (tm2 119 rfl) rfl
theorem wk_2_120 : Cond.code yX6_isMonth cX6_isMonth 1 (some .boolean) ∈ gtbl := gm (tm2 120 rfl) rfl
theorem wk_2_121 : Cond.methodLink RX6 116 yX6_isPart ∈ gtbl := gm (tm2 121 rfl) rfl
theorem wk_2_122 : Cond.static yX6_isPart ∈ gtbl := gm (tm2 122 rfl) rfl
theorem wk_2_123 : Cond.code yX6_isPart cX6_isPart 1 (some .boolean) ∈ gtbl := gm (tm2 123 rfl) rfl
theorem wk_2_124 : Cond.methodLink RX6 119 yX6_refuseLong ∈ gtbl := gm (tm2 124 rfl) rfl
theorem wk_2_126 : Cond.instanceMethod yX6_refuseLong ∈ gtbl := gm (tm2 126 rfl) rfl
theorem wk_2_127 : Cond.code yX6_refuseLong cX6_refuseLong 2 (some .long) ∈ gtbl := gm (tm2 127 rfl) rfl
theorem wk_2_128 : Cond.constantLong RX6 232 (4000000000000000000 : Int64) ∈ gtbl := gm (tm2 128 rfl) rfl
theorem wk_2_129 : Cond.methodLinkNest RX6 123 yX0_monthSum RX6 ∈ nestW := nm (tm2 129 rfl) rfl
theorem wk_2_131 : Cond.instanceMethod yX0_monthSum ∈ gtbl := gm (tm2 131 rfl) rfl
theorem wk_2_132 : Cond.code yX0_monthSum cX0_monthSum 4 (some .int) ∈ gtbl := gm (tm2 132 rfl) rfl
theorem wk_2_133 : Cond.fieldLinkNest RX0 101 "GlassJar" "MONTH_STARTS" "[I" RX6 ∈ nestW := nm (tm2 133 rfl) rfl
theorem wk_2_134 : Cond.laysStatic "GlassJar" "MONTH_STARTS" "[I" ∈ tables_1 := tm2 134 rfl
theorem wk_2_135 : Cond.methodLink RX0 104 yX0_numberAt ∈ gtbl := gm (tm2 135 rfl) rfl
theorem wk_2_136 : Cond.methodLink RX6 126 yX6_monthLength ∈ gtbl := gm (tm2 136 rfl) rfl
theorem wk_2_137 : Cond.static yX6_monthLength ∈ gtbl := gm (tm2 137 rfl) rfl
theorem wk_2_138 : Cond.code yX6_monthLength cX6_monthLength 1 (some .int) ∈ gtbl := gm (tm2 138 rfl) rfl
theorem wk_2_139 : Cond.fieldLink RX6 246 "GlassJar" "MONTH_STARTS" "[I" ∈ gtbl := gm (tm2 139 rfl) rfl
theorem wk_2_140 : Cond.methodLinkNest RX6 129 yX3_become RX6 ∈ nestW := nm (tm2 140 rfl) rfl
theorem wk_2_142 : Cond.instanceMethod yX3_become ∈ gtbl := gm (tm2 142 rfl) rfl
theorem wk_2_143 : Cond.code yX3_become cX3_become 9 none ∈ gtbl := gm (tm2 143 rfl) rfl
theorem wk_2_144 : Cond.methodLink RX3 16 yJ9_abs_067f4 ∈ gtbl := gm (tm2 144 rfl) rfl
theorem wk_2_145 : Cond.static yJ9_abs_067f4 ∈ gtbl := gm (tm2 145 rfl) rfl
theorem wk_2_146 : Cond.code yJ9_abs_067f4 cJ9_abs_067f4 2 (some .long) ∈ gtbl := gm (tm2 146 rfl) rfl
theorem wk_2_147 : Cond.methodLink RX3 22 yX3_commonDivisor ∈ gtbl := gm (tm2 147 rfl) rfl
theorem wk_2_148 : Cond.static yX3_commonDivisor ∈ gtbl := gm (tm2 148 rfl) rfl
theorem wk_2_149 : Cond.code yX3_commonDivisor cX3_commonDivisor 11 (some .long) ∈ gtbl := gm (tm2 149 rfl) rfl
theorem wk_2_150 : Cond.constantLong RX3 26 (-1 : Int64) ∈ gtbl := gm (tm2 150 rfl) rfl
theorem wk_2_151 : Cond.methodLinkNest RX6 133 yX3_partAt RX6 ∈ nestW := nm (tm2 151 rfl) rfl
theorem wk_2_153 : Cond.instanceMethod yX3_partAt ∈ gtbl := gm (tm2 153 rfl) rfl
theorem wk_2_154 : Cond.code yX3_partAt cX3_partAt 2 (some .long) ∈ gtbl := gm (tm2 154 rfl) rfl
theorem wk_2_155 : Cond.methodLink RL 49 yX6_lean ∈ gtbl := gm (tm2 155 rfl) rfl
theorem wk_2_156 : Cond.instanceMethod yX6_lean ∈ gtbl := gm (tm2 156 rfl) rfl
theorem wk_2_157 : Cond.selects RX6 yX6_lean yX6_lean ∈ gtbl := gm (tm2 157 rfl) rfl
theorem wk_2_158 : Cond.code yX6_lean cX6_lean 2 (some .long) ∈ gtbl := gm (tm2 158 rfl) rfl
theorem wk_2_159 : Cond.methodLinkNest RX6 136 yX0_leaning RX6 ∈ nestW := nm (tm2 159 rfl) rfl
theorem wk_2_161 : Cond.instanceMethod yX0_leaning ∈ gtbl := gm (tm2 161 rfl) rfl
theorem wk_2_162 : Cond.code yX0_leaning cX0_leaning 4 (some .long) ∈ gtbl := gm (tm2 162 rfl) rfl
theorem wk_2_163 : Cond.constantLong RX0 107 (2 : Int64) ∈ gtbl := gm (tm2 163 rfl) rfl
theorem wk_2_164 : Cond.constantLong RX0 109 (365 : Int64) ∈ gtbl := gm (tm2 164 rfl) rfl
theorem wk_2_165 : Cond.constantLong RX0 111 (367 : Int64) ∈ gtbl := gm (tm2 165 rfl) rfl
theorem wk_2_166 : Cond.methodLink RL 54 yX6_worst ∈ gtbl := gm (tm2 166 rfl) rfl
theorem wk_2_167 : Cond.instanceMethod yX6_worst ∈ gtbl := gm (tm2 167 rfl) rfl
theorem wk_2_168 : Cond.selects RX6 yX6_worst yX6_worst ∈ gtbl := gm (tm2 168 rfl) rfl
theorem wk_2_169 : Cond.code yX6_worst cX6_worst 2 (some .int) ∈ gtbl := gm (tm2 169 rfl) rfl
theorem wk_2_170 : Cond.methodLinkNest RX6 140 yX0_worstMonth RX6 ∈ nestW := nm (tm2 170 rfl) rfl
theorem wk_2_172 : Cond.instanceMethod yX0_worstMonth ∈ gtbl := gm (tm2 172 rfl) rfl
theorem wk_2_173 : Cond.code yX0_worstMonth cX0_worstMonth 3 (some .int) ∈ gtbl := gm (tm2 173 rfl) rfl
theorem wk_2_174 : Cond.methodLink RX0 113 yX0_monthDistance ∈ gtbl := gm (tm2 174 rfl) rfl
theorem wk_2_176 : Cond.instanceMethod yX0_monthDistance ∈ gtbl := gm (tm2 176 rfl) rfl
theorem wk_2_177 : Cond.code yX0_monthDistance cX0_monthDistance 2 (some .long) ∈ gtbl := gm (tm2 177 rfl) rfl
theorem wk_2_178 : Cond.methodLink RX0 120 yX0_monthSum ∈ gtbl := gm (tm2 178 rfl) rfl
theorem wk_2_179 : Cond.methodLinkNest RX0 117 yX6_monthLength RX6 ∈ nestW := nm (tm2 179 rfl) rfl
theorem wk_2_180 : Cond.methodLink RX0 123 yJ9_abs_067f4 ∈ gtbl := gm (tm2 180 rfl) rfl
theorem wk_2_181 : Cond.methodLink RL 59 yX6_turned ∈ gtbl := gm (tm2 181 rfl) rfl
theorem wk_2_182 : Cond.instanceMethod yX6_turned ∈ gtbl := gm (tm2 182 rfl) rfl
theorem wk_2_183 : Cond.selects RX6 yX6_turned yX6_turned ∈ gtbl := gm (tm2 183 rfl) rfl
theorem wk_2_184 : Cond.code yX6_turned cX6_turned 2 (some .int) ∈ gtbl := gm (tm2 184 rfl) rfl
theorem wk_2_185 : Cond.methodLinkNest RX6 143 yX0_turnedPairs RX6 ∈ nestW := nm (tm2 185 rfl) rfl
theorem wk_2_187 : Cond.instanceMethod yX0_turnedPairs ∈ gtbl := gm (tm2 187 rfl) rfl
theorem wk_2_188 : Cond.code yX0_turnedPairs cX0_turnedPairs 4 (some .int) ∈ gtbl := gm (tm2 188 rfl) rfl
theorem wk_2_189 : Cond.methodLink RX0 127 yJ7_fill_d0a16 ∈ gtbl := gm (tm2 189 rfl) rfl
theorem wk_2_190 : Cond.static yJ7_fill_d0a16 ∈ gtbl := gm (tm2 190 rfl) rfl
theorem wk_2_191 : Cond.code yJ7_fill_d0a16 cJ7_fill_d0a16 5 none ∈ gtbl := gm (tm2 191 rfl) rfl
theorem wk_2_192 : Cond.methodLink RX0 133 yX0_seenAbove ∈ gtbl := gm (tm2 192 rfl) rfl
theorem wk_2_194 : Cond.instanceMethod yX0_seenAbove ∈ gtbl := gm (tm2 194 rfl) rfl
theorem wk_2_195 : Cond.code yX0_seenAbove cX0_seenAbove 5 (some .int) ∈ gtbl := gm (tm2 195 rfl) rfl
theorem wk_2_196 : Cond.methodLink RX0 140 yJ13_bitCount_95d88 ∈ gtbl := gm (tm2 196 rfl) rfl
theorem wk_2_197 : Cond.static yJ13_bitCount_95d88 ∈ gtbl := gm (tm2 197 rfl) rfl
theorem wk_2_198 : Cond.code yJ13_bitCount_95d88 cJ13_bitCount_95d88 2 (some .int) ∈ gtbl := gm (tm2 198 rfl) rfl
theorem wk_2_199 : Cond.constantLong RJ13 314 (6148914691236517205 : Int64) ∈ gtbl := gm (tm2 199 rfl) rfl
theorem wk_2_200 : Cond.constantLong RJ13 316 (3689348814741910323 : Int64) ∈ gtbl := gm (tm2 200 rfl) rfl
theorem wk_2_201 : Cond.constantLong RJ13 318 (1085102592571150095 : Int64) ∈ gtbl := gm (tm2 201 rfl) rfl
theorem wk_2_202 : Cond.methodLink RX0 136 yX0_markSeen ∈ gtbl := gm (tm2 202 rfl) rfl
theorem wk_2_204 : Cond.instanceMethod yX0_markSeen ∈ gtbl := gm (tm2 204 rfl) rfl
theorem wk_2_205 : Cond.code yX0_markSeen cX0_markSeen 3 none ∈ gtbl := gm (tm2 205 rfl) rfl
theorem wk_2_206 : Cond.methodLink RL 63 yX6_manOf ∈ gtbl := gm (tm2 206 rfl) rfl
theorem wk_2_207 : Cond.instanceMethod yX6_manOf ∈ gtbl := gm (tm2 207 rfl) rfl
theorem wk_2_208 : Cond.selects RX6 yX6_manOf yX6_manOf ∈ gtbl := gm (tm2 208 rfl) rfl
theorem wk_2_209 : Cond.code yX6_manOf cX6_manOf 4 (some .int) ∈ gtbl := gm (tm2 209 rfl) rfl
theorem wk_2_210 : Cond.methodLink RX6 146 yX6_isMan ∈ gtbl := gm (tm2 210 rfl) rfl
theorem wk_2_212 : Cond.instanceMethod yX6_isMan ∈ gtbl := gm (tm2 212 rfl) rfl
theorem wk_2_213 : Cond.code yX6_isMan cX6_isMan 2 (some .boolean) ∈ gtbl := gm (tm2 213 rfl) rfl
theorem wk_2_214 : Cond.methodLinkNest RX6 149 yX2_kindAt RX6 ∈ nestW := nm (tm2 214 rfl) rfl
theorem wk_2_216 : Cond.instanceMethod yX2_kindAt ∈ gtbl := gm (tm2 216 rfl) rfl
theorem wk_2_217 : Cond.code yX2_kindAt cX2_kindAt 2 (some .int) ∈ gtbl := gm (tm2 217 rfl) rfl
theorem wk_2_218 : Cond.methodLinkNest RX2 33 yX6_at RX6 ∈ nestW := nm (tm2 218 rfl) rfl
theorem wk_2_219 : Cond.methodLinkNest RX6 152 yX2_birthdayAt RX6 ∈ nestW := nm (tm2 219 rfl) rfl
theorem wk_2_221 : Cond.instanceMethod yX2_birthdayAt ∈ gtbl := gm (tm2 221 rfl) rfl
theorem wk_2_222 : Cond.code yX2_birthdayAt cX2_birthdayAt 2 (some .int) ∈ gtbl := gm (tm2 222 rfl) rfl
theorem wk_2_223 : Cond.methodLinkNest RX6 155 yX2_payAt RX6 ∈ nestW := nm (tm2 223 rfl) rfl
theorem wk_2_225 : Cond.instanceMethod yX2_payAt ∈ gtbl := gm (tm2 225 rfl) rfl
theorem wk_2_226 : Cond.code yX2_payAt cX2_payAt 2 (some .int) ∈ gtbl := gm (tm2 226 rfl) rfl
theorem wk_2_227 : Cond.methodLink RL 67 yX6_cut ∈ gtbl := gm (tm2 227 rfl) rfl
theorem wk_2_228 : Cond.instanceMethod yX6_cut ∈ gtbl := gm (tm2 228 rfl) rfl
theorem wk_2_229 : Cond.selects RX6 yX6_cut yX6_cut ∈ gtbl := gm (tm2 229 rfl) rfl
theorem wk_2_230 : Cond.code yX6_cut cX6_cut 4 (some .int) ∈ gtbl := gm (tm2 230 rfl) rfl
theorem wk_2_231 : Cond.methodLink RL 71 yX6_law ∈ gtbl := gm (tm2 231 rfl) rfl
theorem wk_2_232 : Cond.instanceMethod yX6_law ∈ gtbl := gm (tm2 232 rfl) rfl
theorem wk_2_233 : Cond.selects RX6 yX6_law yX6_law ∈ gtbl := gm (tm2 233 rfl) rfl
theorem wk_2_234 : Cond.code yX6_law cX6_law 6 (some .int) ∈ gtbl := gm (tm2 234 rfl) rfl
theorem wk_2_235 : Cond.fieldLink RX6 161 "GlassJar" "GREATEST_LAWS" "[I" ∈ gtbl := gm (tm2 235 rfl) rfl
theorem wk_2_236 : Cond.laysStatic "GlassJar" "GREATEST_LAWS" "[I" ∈ tables_1 := tm2 236 rfl
theorem wk_2_237 : Cond.methodLink RL 75 yX6_called ∈ gtbl := gm (tm2 237 rfl) rfl
theorem wk_2_238 : Cond.instanceMethod yX6_called ∈ gtbl := gm (tm2 238 rfl) rfl
theorem wk_2_239 : Cond.selects RX6 yX6_called yX6_called ∈ gtbl := gm (tm2 239 rfl) rfl
theorem wk_3_0 : Cond.code yX6_called cX6_called 3 (some .int) ∈ gtbl := gm (tm3 0 rfl) rfl
theorem wk_3_1 : Cond.methodLinkNest RX6 175 yX1_isCalledBy RX6 ∈ nestW := nm (tm3 1 rfl) rfl
theorem wk_3_3 : Cond.instanceMethod yX1_isCalledBy ∈ gtbl := gm (tm3 3 rfl) rfl
theorem wk_3_4 : Cond.code yX1_isCalledBy cX1_isCalledBy 3 (some .boolean) ∈ gtbl := gm (tm3 4 rfl) rfl
theorem wk_3_5 : Cond.methodLink RX1 80 yX1_numberOfMan ∈ gtbl := gm (tm3 5 rfl) rfl
theorem wk_3_7 : Cond.instanceMethod yX1_numberOfMan ∈ gtbl := gm (tm3 7 rfl) rfl
theorem wk_3_8 : Cond.code yX1_numberOfMan cX1_numberOfMan 3 (some .int) ∈ gtbl := gm (tm3 8 rfl) rfl
theorem wk_3_9 : Cond.methodLinkNest RX1 73 yX2_birthdayAt RX6 ∈ nestW := nm (tm3 9 rfl) rfl
theorem wk_3_10 : Cond.methodLinkNest RX1 77 yX0_numberAt RX6 ∈ nestW := nm (tm3 10 rfl) rfl
theorem wk_3_11 : Cond.methodLink RX1 84 yX1_isCalled ∈ gtbl := gm (tm3 11 rfl) rfl
theorem wk_3_13 : Cond.instanceMethod yX1_isCalled ∈ gtbl := gm (tm3 13 rfl) rfl
theorem wk_3_14 : Cond.code yX1_isCalled cX1_isCalled 2 (some .boolean) ∈ gtbl := gm (tm3 14 rfl) rfl
theorem wk_3_15 : Cond.methodLink RL 79 yX6_served ∈ gtbl := gm (tm3 15 rfl) rfl
theorem wk_3_16 : Cond.instanceMethod yX6_served ∈ gtbl := gm (tm3 16 rfl) rfl
theorem wk_3_17 : Cond.selects RX6 yX6_served yX6_served ∈ gtbl := gm (tm3 17 rfl) rfl
theorem wk_3_18 : Cond.code yX6_served cX6_served 3 (some .int) ∈ gtbl := gm (tm3 18 rfl) rfl
theorem wk_3_19 : Cond.methodLinkNest RX6 179 yX1_serviceOf RX6 ∈ nestW := nm (tm3 19 rfl) rfl
theorem wk_3_21 : Cond.instanceMethod yX1_serviceOf ∈ gtbl := gm (tm3 21 rfl) rfl
theorem wk_3_22 : Cond.code yX1_serviceOf cX1_serviceOf 3 (some .int) ∈ gtbl := gm (tm3 22 rfl) rfl
theorem wk_3_23 : Cond.methodLinkNest RX1 88 yX2_kindAt RX6 ∈ nestW := nm (tm3 23 rfl) rfl
theorem wk_3_24 : Cond.methodLink RX1 91 yX1_serviceBy ∈ gtbl := gm (tm3 24 rfl) rfl
theorem wk_3_26 : Cond.instanceMethod yX1_serviceBy ∈ gtbl := gm (tm3 26 rfl) rfl
theorem wk_3_27 : Cond.code yX1_serviceBy cX1_serviceBy 4 (some .int) ∈ gtbl := gm (tm3 27 rfl) rfl
theorem wk_3_28 : Cond.methodLink RX1 95 yX1_isEven ∈ gtbl := gm (tm3 28 rfl) rfl
theorem wk_3_29 : Cond.static yX1_isEven ∈ gtbl := gm (tm3 29 rfl) rfl
theorem wk_3_30 : Cond.code yX1_isEven cX1_isEven 1 (some .boolean) ∈ gtbl := gm (tm3 30 rfl) rfl
theorem wk_3_31 : Cond.methodLink RL 83 yX6_wage ∈ gtbl := gm (tm3 31 rfl) rfl
theorem wk_3_32 : Cond.instanceMethod yX6_wage ∈ gtbl := gm (tm3 32 rfl) rfl
theorem wk_3_33 : Cond.selects RX6 yX6_wage yX6_wage ∈ gtbl := gm (tm3 33 rfl) rfl
theorem wk_3_34 : Cond.code yX6_wage cX6_wage 5 (some .long) ∈ gtbl := gm (tm3 34 rfl) rfl
theorem wk_3_35 : Cond.methodLinkNest RX6 183 yX1_wageOf RX6 ∈ nestW := nm (tm3 35 rfl) rfl
theorem wk_3_37 : Cond.instanceMethod yX1_wageOf ∈ gtbl := gm (tm3 37 rfl) rfl
theorem wk_3_38 : Cond.code yX1_wageOf cX1_wageOf 7 (some .int) ∈ gtbl := gm (tm3 38 rfl) rfl
theorem wk_3_39 : Cond.methodLinkNest RX1 117 yX2_payAt RX6 ∈ nestW := nm (tm3 39 rfl) rfl
theorem wk_3_40 : Cond.methodLinkNest RX1 105 yX6_at RX6 ∈ nestW := nm (tm3 40 rfl) rfl
theorem wk_3_41 : Cond.methodLink RX1 120 yX1_changeByService ∈ gtbl := gm (tm3 41 rfl) rfl
theorem wk_3_43 : Cond.instanceMethod yX1_changeByService ∈ gtbl := gm (tm3 43 rfl) rfl
theorem wk_3_44 : Cond.code yX1_changeByService cX1_changeByService 3 (some .int) ∈ gtbl := gm (tm3 44 rfl) rfl
theorem wk_3_45 : Cond.methodLink RX1 114 yX1_lossLeft ∈ gtbl := gm (tm3 45 rfl) rfl
theorem wk_3_47 : Cond.instanceMethod yX1_lossLeft ∈ gtbl := gm (tm3 47 rfl) rfl
theorem wk_3_48 : Cond.code yX1_lossLeft cX1_lossLeft 2 (some .int) ∈ gtbl := gm (tm3 48 rfl) rfl
theorem wk_3_49 : Cond.methodLink RX1 109 yJ9_max_7cf53 ∈ gtbl := gm (tm3 49 rfl) rfl
theorem wk_3_50 : Cond.methodLink RL 87 yX6_does ∈ gtbl := gm (tm3 50 rfl) rfl
theorem wk_3_51 : Cond.instanceMethod yX6_does ∈ gtbl := gm (tm3 51 rfl) rfl
theorem wk_3_52 : Cond.selects RX6 yX6_does yX6_does ∈ gtbl := gm (tm3 52 rfl) rfl
theorem wk_3_53 : Cond.code yX6_does cX6_does 5 (some .long) ∈ gtbl := gm (tm3 53 rfl) rfl
theorem wk_3_54 : Cond.methodLinkNest RX6 187 yX1_findDoes RX6 ∈ nestW := nm (tm3 54 rfl) rfl
theorem wk_3_56 : Cond.instanceMethod yX1_findDoes ∈ gtbl := gm (tm3 56 rfl) rfl
theorem wk_3_57 : Cond.code yX1_findDoes cX1_findDoes 5 (some .boolean) ∈ gtbl := gm (tm3 57 rfl) rfl
theorem wk_3_58 : Cond.methodLinkNest RX1 123 yX4_clear RX6 ∈ nestW := nm (tm3 58 rfl) rfl
theorem wk_3_60 : Cond.instanceMethod yX4_clear ∈ gtbl := gm (tm3 60 rfl) rfl
theorem wk_3_61 : Cond.code yX4_clear cX4_clear 1 none ∈ gtbl := gm (tm3 61 rfl) rfl
theorem wk_3_62 : Cond.methodLink RX1 126 yX1_isCalledBy ∈ gtbl := gm (tm3 62 rfl) rfl
theorem wk_3_63 : Cond.methodLink RX1 130 yX1_wageOf ∈ gtbl := gm (tm3 63 rfl) rfl
theorem wk_3_64 : Cond.methodLinkNest RX1 134 yX4_enter RX6 ∈ nestW := nm (tm3 64 rfl) rfl
theorem wk_3_66 : Cond.instanceMethod yX4_enter ∈ gtbl := gm (tm3 66 rfl) rfl
theorem wk_3_67 : Cond.code yX4_enter cX4_enter 4 none ∈ gtbl := gm (tm3 67 rfl) rfl
theorem wk_3_68 : Cond.methodLinkNest RX1 138 yX4_findGap RX6 ∈ nestW := nm (tm3 68 rfl) rfl
theorem wk_3_70 : Cond.instanceMethod yX4_findGap ∈ gtbl := gm (tm3 70 rfl) rfl
theorem wk_3_71 : Cond.code yX4_findGap cX4_findGap 2 (some .boolean) ∈ gtbl := gm (tm3 71 rfl) rfl
theorem wk_3_72 : Cond.methodLinkNest RX4 23 yX3_become RX6 ∈ nestW := nm (tm3 72 rfl) rfl
theorem wk_3_73 : Cond.methodLink RX6 191 yX6_partOrNone ∈ gtbl := gm (tm3 73 rfl) rfl
theorem wk_3_75 : Cond.instanceMethod yX6_partOrNone ∈ gtbl := gm (tm3 75 rfl) rfl
theorem wk_3_76 : Cond.code yX6_partOrNone cX6_partOrNone 3 (some .long) ∈ gtbl := gm (tm3 76 rfl) rfl
theorem wk_3_77 : Cond.methodLink RL 91 yX6_share ∈ gtbl := gm (tm3 77 rfl) rfl
theorem wk_3_78 : Cond.instanceMethod yX6_share ∈ gtbl := gm (tm3 78 rfl) rfl
theorem wk_3_79 : Cond.selects RX6 yX6_share yX6_share ∈ gtbl := gm (tm3 79 rfl) rfl
theorem wk_3_80 : Cond.code yX6_share cX6_share 4 (some .long) ∈ gtbl := gm (tm3 80 rfl) rfl
theorem wk_3_81 : Cond.methodLinkNest RX6 195 yX1_findShare RX6 ∈ nestW := nm (tm3 81 rfl) rfl
theorem wk_3_83 : Cond.instanceMethod yX1_findShare ∈ gtbl := gm (tm3 83 rfl) rfl
theorem wk_3_84 : Cond.code yX1_findShare cX1_findShare 5 (some .boolean) ∈ gtbl := gm (tm3 84 rfl) rfl
theorem wk_3_85 : Cond.methodLink RX1 101 yX1_hasServed ∈ gtbl := gm (tm3 85 rfl) rfl
theorem wk_3_87 : Cond.instanceMethod yX1_hasServed ∈ gtbl := gm (tm3 87 rfl) rfl
theorem wk_3_88 : Cond.code yX1_hasServed cX1_hasServed 4 (some .boolean) ∈ gtbl := gm (tm3 88 rfl) rfl
theorem wk_3_89 : Cond.methodLink RL 96 yX6_serving ∈ gtbl := gm (tm3 89 rfl) rfl
theorem wk_3_90 : Cond.instanceMethod yX6_serving ∈ gtbl := gm (tm3 90 rfl) rfl
theorem wk_3_91 : Cond.selects RX6 yX6_serving yX6_serving ∈ gtbl := gm (tm3 91 rfl) rfl
theorem wk_3_92 : Cond.code yX6_serving cX6_serving 5 (some .long) ∈ gtbl := gm (tm3 92 rfl) rfl
theorem wk_3_93 : Cond.methodLinkNest RX6 199 yX1_findServing RX6 ∈ nestW := nm (tm3 93 rfl) rfl
theorem wk_3_95 : Cond.instanceMethod yX1_findServing ∈ gtbl := gm (tm3 95 rfl) rfl
theorem wk_3_96 : Cond.code yX1_findServing cX1_findServing 4 (some .boolean) ∈ gtbl := gm (tm3 96 rfl) rfl
theorem wk_3_97 : Cond.methodLink RX1 142 yX1_findShare ∈ gtbl := gm (tm3 97 rfl) rfl
theorem wk_3_98 : Cond.methodLink RX1 150 yX1_findDoes ∈ gtbl := gm (tm3 98 rfl) rfl
theorem wk_3_99 : Cond.methodLinkNest RX1 157 yX3_become RX6 ∈ nestW := nm (tm3 99 rfl) rfl
theorem wk_3_100 : Cond.methodLink RL 100 yX6_truly ∈ gtbl := gm (tm3 100 rfl) rfl
theorem wk_3_101 : Cond.instanceMethod yX6_truly ∈ gtbl := gm (tm3 101 rfl) rfl
theorem wk_3_102 : Cond.selects RX6 yX6_truly yX6_truly ∈ gtbl := gm (tm3 102 rfl) rfl
theorem wk_3_103 : Cond.code yX6_truly cX6_truly 5 (some .long) ∈ gtbl := gm (tm3 103 rfl) rfl
theorem wk_3_104 : Cond.methodLinkNest RX6 202 yX1_findTruly RX6 ∈ nestW := nm (tm3 104 rfl) rfl
theorem wk_3_106 : Cond.instanceMethod yX1_findTruly ∈ gtbl := gm (tm3 106 rfl) rfl
theorem wk_3_107 : Cond.code yX1_findTruly cX1_findTruly 5 (some .boolean) ∈ gtbl := gm (tm3 107 rfl) rfl
theorem wk_3_108 : Cond.methodLink RX1 161 yX1_servesOnlyIfCalled ∈ gtbl := gm (tm3 108 rfl) rfl
theorem wk_3_110 : Cond.instanceMethod yX1_servesOnlyIfCalled ∈ gtbl := gm (tm3 110 rfl) rfl
theorem wk_3_111 : Cond.code yX1_servesOnlyIfCalled cX1_servesOnlyIfCalled 3 (some .boolean) ∈ gtbl := gm (tm3 111 rfl) rfl
theorem wk_3_112 : Cond.methodLink RL 104 yX6_faded ∈ gtbl := gm (tm3 112 rfl) rfl
theorem wk_3_113 : Cond.instanceMethod yX6_faded ∈ gtbl := gm (tm3 113 rfl) rfl
theorem wk_3_114 : Cond.selects RX6 yX6_faded yX6_faded ∈ gtbl := gm (tm3 114 rfl) rfl
theorem wk_3_115 : Cond.code yX6_faded cX6_faded 5 (some .int) ∈ gtbl := gm (tm3 115 rfl) rfl
theorem wk_3_116 : Cond.methodLinkNest RX6 205 yX3_isWithin RX6 ∈ nestW := nm (tm3 116 rfl) rfl
theorem wk_3_118 : Cond.instanceMethod yX3_isWithin ∈ gtbl := gm (tm3 118 rfl) rfl
theorem wk_3_119 : Cond.code yX3_isWithin cX3_isWithin 3 (some .boolean) ∈ gtbl := gm (tm3 119 rfl) rfl
theorem wk_3_120 : Cond.methodLink RL 108 yX6_group ∈ gtbl := gm (tm3 120 rfl) rfl
theorem wk_3_121 : Cond.instanceMethod yX6_group ∈ gtbl := gm (tm3 121 rfl) rfl
theorem wk_3_122 : Cond.selects RX6 yX6_group yX6_group ∈ gtbl := gm (tm3 122 rfl) rfl
theorem wk_3_123 : Cond.code yX6_group cX6_group 6 (some .long) ∈ gtbl := gm (tm3 123 rfl) rfl
theorem wk_3_124 : Cond.methodLinkNest RX6 209 yX1_isShown RX6 ∈ nestW := nm (tm3 124 rfl) rfl
theorem wk_3_126 : Cond.instanceMethod yX1_isShown ∈ gtbl := gm (tm3 126 rfl) rfl
theorem wk_3_127 : Cond.code yX1_isShown cX1_isShown 2 (some .boolean) ∈ gtbl := gm (tm3 127 rfl) rfl
theorem wk_3_128 : Cond.methodLink RX1 167 yX1_menOfMonth ∈ gtbl := gm (tm3 128 rfl) rfl
theorem wk_3_130 : Cond.instanceMethod yX1_menOfMonth ∈ gtbl := gm (tm3 130 rfl) rfl
theorem wk_3_131 : Cond.code yX1_menOfMonth cX1_menOfMonth 4 (some .int) ∈ gtbl := gm (tm3 131 rfl) rfl
theorem wk_3_132 : Cond.methodLinkNest RX1 164 yX6_monthOf RX6 ∈ nestW := nm (tm3 132 rfl) rfl
theorem wk_3_133 : Cond.static yX6_monthOf ∈ gtbl := gm (tm3 133 rfl) rfl
theorem wk_3_134 : Cond.code yX6_monthOf cX6_monthOf 2 (some .int) ∈ gtbl := gm (tm3 134 rfl) rfl
theorem wk_3_135 : Cond.constantLong RX6 212 (-9 : Int64) ∈ gtbl := gm (tm3 135 rfl) rfl
theorem wk_3_136 : Cond.methodLinkNest RX6 214 yX1_findGroup RX6 ∈ nestW := nm (tm3 136 rfl) rfl
theorem wk_3_138 : Cond.instanceMethod yX1_findGroup ∈ gtbl := gm (tm3 138 rfl) rfl
theorem wk_3_139 : Cond.code yX1_findGroup cX1_findGroup 8 none ∈ gtbl := gm (tm3 139 rfl) rfl
theorem wk_3_140 : Cond.methodLink RL 113 yX6_least ∈ gtbl := gm (tm3 140 rfl) rfl
theorem wk_3_141 : Cond.instanceMethod yX6_least ∈ gtbl := gm (tm3 141 rfl) rfl
theorem wk_3_142 : Cond.selects RX6 yX6_least yX6_least ∈ gtbl := gm (tm3 142 rfl) rfl
theorem wk_3_143 : Cond.code yX6_least cX6_least 4 (some .int) ∈ gtbl := gm (tm3 143 rfl) rfl
theorem wk_3_144 : Cond.methodLink RL 117 yX6_shown ∈ gtbl := gm (tm3 144 rfl) rfl
theorem wk_3_145 : Cond.instanceMethod yX6_shown ∈ gtbl := gm (tm3 145 rfl) rfl
theorem wk_3_146 : Cond.selects RX6 yX6_shown yX6_shown ∈ gtbl := gm (tm3 146 rfl) rfl
theorem wk_3_147 : Cond.code yX6_shown cX6_shown 3 (some .int) ∈ gtbl := gm (tm3 147 rfl) rfl
theorem wk_3_148 : Cond.methodLink RL 121 yX6_moved ∈ gtbl := gm (tm3 148 rfl) rfl
theorem wk_3_149 : Cond.instanceMethod yX6_moved ∈ gtbl := gm (tm3 149 rfl) rfl
theorem wk_3_150 : Cond.selects RX6 yX6_moved yX6_moved ∈ gtbl := gm (tm3 150 rfl) rfl
theorem wk_3_151 : Cond.code yX6_moved cX6_moved 3 (some .int) ∈ gtbl := gm (tm3 151 rfl) rfl
theorem wk_3_152 : Cond.methodLink RL 125 yX6_cuts ∈ gtbl := gm (tm3 152 rfl) rfl
theorem wk_3_153 : Cond.instanceMethod yX6_cuts ∈ gtbl := gm (tm3 153 rfl) rfl
theorem wk_3_154 : Cond.selects RX6 yX6_cuts yX6_cuts ∈ gtbl := gm (tm3 154 rfl) rfl
theorem wk_3_155 : Cond.code yX6_cuts cX6_cuts 4 (some .int) ∈ gtbl := gm (tm3 155 rfl) rfl
theorem wk_3_156 : Cond.methodLinkNest RX6 221 yX1_leastCutFor RX6 ∈ nestW := nm (tm3 156 rfl) rfl
theorem wk_3_158 : Cond.instanceMethod yX1_leastCutFor ∈ gtbl := gm (tm3 158 rfl) rfl
theorem wk_3_159 : Cond.code yX1_leastCutFor cX1_leastCutFor 7 (some .int) ∈ gtbl := gm (tm3 159 rfl) rfl
theorem wk_3_160 : Cond.methodLink RX1 170 yX1_menWithNumberUpTo ∈ gtbl := gm (tm3 160 rfl) rfl
theorem wk_3_162 : Cond.instanceMethod yX1_menWithNumberUpTo ∈ gtbl := gm (tm3 162 rfl) rfl
theorem wk_3_163 : Cond.code yX1_menWithNumberUpTo cX1_menWithNumberUpTo 5 (some .int) ∈ gtbl := gm (tm3 163 rfl) rfl
theorem wk_3_164 : Cond.methodLink RL 129 yX6_image ∈ gtbl := gm (tm3 164 rfl) rfl
theorem wk_3_165 : Cond.instanceMethod yX6_image ∈ gtbl := gm (tm3 165 rfl) rfl
theorem wk_3_166 : Cond.selects RX6 yX6_image yX6_image ∈ gtbl := gm (tm3 166 rfl) rfl
theorem wk_3_167 : Cond.code yX6_image cX6_image 1 (some .int) ∈ gtbl := gm (tm3 167 rfl) rfl
theorem wk_3_168 : Cond.methodLinkNest RX6 224 yX1_copyLottery RX6 ∈ nestW := nm (tm3 168 rfl) rfl
theorem wk_3_170 : Cond.instanceMethod yX1_copyLottery ∈ gtbl := gm (tm3 170 rfl) rfl
theorem wk_3_171 : Cond.code yX1_copyLottery cX1_copyLottery 2 none ∈ gtbl := gm (tm3 171 rfl) rfl
theorem wk_3_172 : Cond.methodLinkNest RX1 61 yX0_copyJar RX6 ∈ nestW := nm (tm3 172 rfl) rfl
theorem wk_3_174 : Cond.instanceMethod yX0_copyJar ∈ gtbl := gm (tm3 174 rfl) rfl
theorem wk_3_175 : Cond.code yX0_copyJar cX0_copyJar 2 none ∈ gtbl := gm (tm3 175 rfl) rfl
theorem wk_3_176 : Cond.methodLinkNest RX0 48 yX6_copyRow RX6 ∈ nestW := nm (tm3 176 rfl) rfl
theorem wk_3_177 : Cond.static yX6_copyRow ∈ gtbl := gm (tm3 177 rfl) rfl
theorem wk_3_178 : Cond.code yX6_copyRow cX6_copyRow 2 none ∈ gtbl := gm (tm3 178 rfl) rfl
theorem wk_3_179 : Cond.methodLink RX6 234 yJ9_min_7cf53 ∈ gtbl := gm (tm3 179 rfl) rfl
theorem wk_3_180 : Cond.methodLink RX6 240 arraycopyName ∈ gtbl := gm (tm3 180 rfl) rfl
theorem wk_3_181 : Cond.methodLinkNest RX1 65 yX2_copyMen RX6 ∈ nestW := nm (tm3 181 rfl) rfl
theorem wk_3_183 : Cond.instanceMethod yX2_copyMen ∈ gtbl := gm (tm3 183 rfl) rfl
theorem wk_3_184 : Cond.code yX2_copyMen cX2_copyMen 2 none ∈ gtbl := gm (tm3 184 rfl) rfl
theorem wk_3_185 : Cond.methodLinkNest RX2 29 yX6_copyRow RX6 ∈ nestW := nm (tm3 185 rfl) rfl
theorem wk_3_186 : Cond.methodLinkNest RX1 69 yX6_copyRow RX6 ∈ nestW := nm (tm3 186 rfl) rfl
theorem wk_3_187 : Cond.methodLink RL 133 yX6_on ∈ gtbl := gm (tm3 187 rfl) rfl
theorem wk_3_188 : Cond.instanceMethod yX6_on ∈ gtbl := gm (tm3 188 rfl) rfl
theorem wk_3_189 : Cond.selects RX6 yX6_on yX6_on ∈ gtbl := gm (tm3 189 rfl) rfl
theorem wk_3_190 : Cond.code yX6_on cX6_on 1 (some .int) ∈ gtbl := gm (tm3 190 rfl) rfl
theorem wk_3_191 : Cond.methodLink RL 137 yX6_count ∈ gtbl := gm (tm3 191 rfl) rfl
theorem wk_3_192 : Cond.instanceMethod yX6_count ∈ gtbl := gm (tm3 192 rfl) rfl
theorem wk_3_193 : Cond.selects RX6 yX6_count yX6_count ∈ gtbl := gm (tm3 193 rfl) rfl
theorem wk_3_194 : Cond.code yX6_count cX6_count 2 (some .int) ∈ gtbl := gm (tm3 194 rfl) rfl
theorem wk_3_195 : Cond.methodLinkNest RX6 228 yX1_menWhoServed RX6 ∈ nestW := nm (tm3 195 rfl) rfl
theorem wk_3_197 : Cond.instanceMethod yX1_menWhoServed ∈ gtbl := gm (tm3 197 rfl) rfl
theorem wk_3_198 : Cond.code yX1_menWhoServed cX1_menWhoServed 4 (some .int) ∈ gtbl := gm (tm3 198 rfl) rfl
theorem wk_3_199 : Cond.classLink RL 10 RX7 ∈ gtbl := gm (tm3 199 rfl) rfl
theorem wk_3_200 : Cond.instantiable RX7 28 ∈ gtbl := gm (tm3 200 rfl) rfl
theorem wk_3_201 : Cond.methodLink RL 12 yX7_init ∈ gtbl := gm (tm3 201 rfl) rfl
theorem wk_3_202 : Cond.instanceMethod yX7_init ∈ gtbl := gm (tm3 202 rfl) rfl
theorem wk_3_203 : Cond.code yX7_init cX7_init 1 none ∈ gtbl := gm (tm3 203 rfl) rfl
theorem wk_3_204 : Cond.methodLink RX7 1 objectInit ∈ gtbl := gm (tm3 204 rfl) rfl
theorem wk_3_205 : Cond.fieldLink RX7 7 "GlassJarModel" "refused" "[I" ∈ gtbl := gm (tm3 205 rfl) rfl
theorem wk_3_206 : Cond.fieldLink RX7 13 "GlassJarModel" "seed" "[I" ∈ gtbl := gm (tm3 206 rfl) rfl
theorem wk_3_207 : Cond.fieldLink RX7 16 "GlassJarModel" "shakes" "[I" ∈ gtbl := gm (tm3 207 rfl) rfl
theorem wk_3_208 : Cond.fieldLink RX7 19 "GlassJarModel" "spread" "[I" ∈ gtbl := gm (tm3 208 rfl) rfl
theorem wk_3_209 : Cond.fieldLink RX7 22 "GlassJarModel" "depth" "[I" ∈ gtbl := gm (tm3 209 rfl) rfl
theorem wk_3_210 : Cond.fieldLink RX7 25 "GlassJarModel" "poured" "[I" ∈ gtbl := gm (tm3 210 rfl) rfl
theorem wk_3_211 : Cond.fieldLink RX7 28 "GlassJarModel" "numbers" "[I" ∈ gtbl := gm (tm3 211 rfl) rfl
theorem wk_3_212 : Cond.fieldLink RX7 31 "GlassJarModel" "row" "[I" ∈ gtbl := gm (tm3 212 rfl) rfl
theorem wk_3_213 : Cond.fieldLink RX7 34 "GlassJarModel" "days" "[I" ∈ gtbl := gm (tm3 213 rfl) rfl
theorem wk_3_214 : Cond.fieldLink RX7 37 "GlassJarModel" "isDrawn" "[Z" ∈ gtbl := gm (tm3 214 rfl) rfl
theorem wk_3_215 : Cond.fieldLink RX7 71 "GlassJarModel" "lots" "I" ∈ gtbl := gm (tm3 215 rfl) rfl
theorem wk_3_216 : Cond.fieldLink RX7 111 "GlassJarModel" "up" "J" ∈ gtbl := gm (tm3 216 rfl) rfl
theorem wk_3_217 : Cond.fieldLink RX7 115 "GlassJarModel" "down" "J" ∈ gtbl := gm (tm3 217 rfl) rfl
theorem wk_3_218 : Cond.fieldLink RX7 41 "GlassJarModel" "tape" "[I" ∈ gtbl := gm (tm3 218 rfl) rfl
theorem wk_3_219 : Cond.fieldLink RX7 44 "GlassJarModel" "kind" "[I" ∈ gtbl := gm (tm3 219 rfl) rfl
theorem wk_3_220 : Cond.fieldLink RX7 47 "GlassJarModel" "born" "[I" ∈ gtbl := gm (tm3 220 rfl) rfl
theorem wk_3_221 : Cond.fieldLink RX7 50 "GlassJarModel" "pay" "[I" ∈ gtbl := gm (tm3 221 rfl) rfl
theorem wk_3_222 : Cond.fieldLink RX7 53 "GlassJarModel" "law" "[I" ∈ gtbl := gm (tm3 222 rfl) rfl
theorem wk_3_223 : Cond.fieldLink RX7 56 "GlassJarModel" "top" "[I" ∈ gtbl := gm (tm3 223 rfl) rfl
theorem wk_3_224 : Cond.fieldLink RX7 148 "GlassJarModel" "taped" "I" ∈ gtbl := gm (tm3 224 rfl) rfl
theorem wk_3_225 : Cond.fieldLink RX7 153 "GlassJarModel" "at" "I" ∈ gtbl := gm (tm3 225 rfl) rfl
theorem wk_3_226 : Cond.fieldLink RX7 163 "GlassJarModel" "men" "I" ∈ gtbl := gm (tm3 226 rfl) rfl
theorem wk_3_227 : Cond.fieldLink RX7 59 "GlassJarModel" "cut" "I" ∈ gtbl := gm (tm3 227 rfl) rfl
theorem wk_3_228 : Cond.fieldLink RX7 63 "GlassJarModel" "least" "I" ∈ gtbl := gm (tm3 228 rfl) rfl
theorem wk_3_229 : Cond.fieldLink RX7 66 "GlassJarModel" "kept" "[I" ∈ gtbl := gm (tm3 229 rfl) rfl
theorem wk_3_230 : Cond.fieldLink RX7 221 "GlassJarModel" "hasImage" "Z" ∈ gtbl := gm (tm3 230 rfl) rfl
theorem wk_3_231 : Cond.fieldLink RX7 207 "GlassJarModel" "isKeeping" "Z" ∈ gtbl := gm (tm3 231 rfl) rfl
theorem wk_3_232 : Cond.fieldLink RX7 211 "GlassJarModel" "cursor" "I" ∈ gtbl := gm (tm3 232 rfl) rfl
theorem wk_3_233 : Cond.laysFinal RX7 "GlassJarModel" "refused" "[I" ∈ gtbl := gm (tm3 233 rfl) rfl
theorem wk_3_235 : Cond.laysFinal RX7 "GlassJarModel" "seed" "[I" ∈ gtbl := gm (tm3 235 rfl) rfl
theorem wk_3_237 : Cond.laysFinal RX7 "GlassJarModel" "shakes" "[I" ∈ gtbl := gm (tm3 237 rfl) rfl
theorem wk_3_239 : Cond.laysFinal RX7 "GlassJarModel" "spread" "[I" ∈ gtbl := gm (tm3 239 rfl) rfl
theorem wk_4_1 : Cond.laysFinal RX7 "GlassJarModel" "depth" "[I" ∈ gtbl := gm (tm4 1 rfl) rfl
theorem wk_4_3 : Cond.laysFinal RX7 "GlassJarModel" "poured" "[I" ∈ gtbl := gm (tm4 3 rfl) rfl
theorem wk_4_5 : Cond.laysFinal RX7 "GlassJarModel" "numbers" "[I" ∈ gtbl := gm (tm4 5 rfl) rfl
theorem wk_4_7 : Cond.laysFinal RX7 "GlassJarModel" "row" "[I" ∈ gtbl := gm (tm4 7 rfl) rfl
theorem wk_4_9 : Cond.laysFinal RX7 "GlassJarModel" "days" "[I" ∈ gtbl := gm (tm4 9 rfl) rfl
theorem wk_4_11 : Cond.laysFinal RX7 "GlassJarModel" "isDrawn" "[Z" ∈ gtbl := gm (tm4 11 rfl) rfl
theorem wk_4_13 : Cond.lays RX7 "GlassJarModel" "lots" "I" ∈ gtbl := gm (tm4 13 rfl) rfl
theorem wk_4_15 : Cond.lays RX7 "GlassJarModel" "up" "J" ∈ gtbl := gm (tm4 15 rfl) rfl
theorem wk_4_17 : Cond.lays RX7 "GlassJarModel" "down" "J" ∈ gtbl := gm (tm4 17 rfl) rfl
theorem wk_4_19 : Cond.laysFinal RX7 "GlassJarModel" "tape" "[I" ∈ gtbl := gm (tm4 19 rfl) rfl
theorem wk_4_21 : Cond.laysFinal RX7 "GlassJarModel" "kind" "[I" ∈ gtbl := gm (tm4 21 rfl) rfl
theorem wk_4_23 : Cond.laysFinal RX7 "GlassJarModel" "born" "[I" ∈ gtbl := gm (tm4 23 rfl) rfl
theorem wk_4_25 : Cond.laysFinal RX7 "GlassJarModel" "pay" "[I" ∈ gtbl := gm (tm4 25 rfl) rfl
theorem wk_4_27 : Cond.laysFinal RX7 "GlassJarModel" "law" "[I" ∈ gtbl := gm (tm4 27 rfl) rfl
theorem wk_4_29 : Cond.laysFinal RX7 "GlassJarModel" "top" "[I" ∈ gtbl := gm (tm4 29 rfl) rfl
theorem wk_4_31 : Cond.lays RX7 "GlassJarModel" "taped" "I" ∈ gtbl := gm (tm4 31 rfl) rfl
theorem wk_4_33 : Cond.lays RX7 "GlassJarModel" "at" "I" ∈ gtbl := gm (tm4 33 rfl) rfl
theorem wk_4_35 : Cond.lays RX7 "GlassJarModel" "men" "I" ∈ gtbl := gm (tm4 35 rfl) rfl
theorem wk_4_37 : Cond.lays RX7 "GlassJarModel" "cut" "I" ∈ gtbl := gm (tm4 37 rfl) rfl
theorem wk_4_39 : Cond.lays RX7 "GlassJarModel" "least" "I" ∈ gtbl := gm (tm4 39 rfl) rfl
theorem wk_4_41 : Cond.laysFinal RX7 "GlassJarModel" "kept" "[I" ∈ gtbl := gm (tm4 41 rfl) rfl
theorem wk_4_43 : Cond.lays RX7 "GlassJarModel" "hasImage" "Z" ∈ gtbl := gm (tm4 43 rfl) rfl
theorem wk_4_45 : Cond.lays RX7 "GlassJarModel" "isKeeping" "Z" ∈ gtbl := gm (tm4 45 rfl) rfl
theorem wk_4_47 : Cond.lays RX7 "GlassJarModel" "cursor" "I" ∈ gtbl := gm (tm4 47 rfl) rfl
theorem wk_4_50 : Cond.arrayClass .boolean ∈ gtbl := gm (tm4 50 rfl) rfl
theorem wk_4_51 : Cond.methodLink RL 29 yX7_jar ∈ gtbl := gm (tm4 51 rfl) rfl
theorem wk_4_52 : Cond.instanceMethod yX7_jar ∈ gtbl := gm (tm4 52 rfl) rfl
theorem wk_4_53 : Cond.selects RX7 yX7_jar yX7_jar ∈ gtbl := gm (tm4 53 rfl) rfl
theorem wk_4_54 : Cond.code yX7_jar cX7_jar 7 (some .int) ∈ gtbl := gm (tm4 54 rfl) rfl
theorem wk_4_55 : Cond.methodLink RX7 77 yX7_isJar ∈ gtbl := gm (tm4 55 rfl) rfl
theorem wk_4_56 : Cond.static yX7_isJar ∈ gtbl := gm (tm4 56 rfl) rfl
theorem wk_4_57 : Cond.code yX7_isJar cX7_isJar 1 (some .boolean) ∈ gtbl := gm (tm4 57 rfl) rfl
theorem wk_4_58 : Cond.methodLink RX7 81 yX7_no ∈ gtbl := gm (tm4 58 rfl) rfl
theorem wk_4_60 : Cond.instanceMethod yX7_no ∈ gtbl := gm (tm4 60 rfl) rfl
theorem wk_4_61 : Cond.code yX7_no cX7_no 2 (some .int) ∈ gtbl := gm (tm4 61 rfl) rfl
theorem wk_4_62 : Cond.methodLink RL 34 yX7_pour ∈ gtbl := gm (tm4 62 rfl) rfl
theorem wk_4_63 : Cond.instanceMethod yX7_pour ∈ gtbl := gm (tm4 63 rfl) rfl
theorem wk_4_64 : Cond.selects RX7 yX7_pour yX7_pour ∈ gtbl := gm (tm4 64 rfl) rfl
theorem wk_4_65 : Cond.code yX7_pour cX7_pour 3 (some .int) ∈ gtbl := gm (tm4 65 rfl) rfl
theorem wk_4_66 : Cond.methodLink RL 39 yX7_number ∈ gtbl := gm (tm4 66 rfl) rfl
theorem wk_4_67 : Cond.instanceMethod yX7_number ∈ gtbl := gm (tm4 67 rfl) rfl
theorem wk_4_68 : Cond.selects RX7 yX7_number yX7_number ∈ gtbl := gm (tm4 68 rfl) rfl
theorem wk_4_69 : Cond.code yX7_number cX7_number 3 (some .int) ∈ gtbl := gm (tm4 69 rfl) rfl
theorem wk_4_70 : Cond.methodLink RX7 96 yX7_isIn ∈ gtbl := gm (tm4 70 rfl) rfl
theorem wk_4_71 : Cond.static yX7_isIn ∈ gtbl := gm (tm4 71 rfl) rfl
theorem wk_4_72 : Cond.code yX7_isIn cX7_isIn 3 (some .boolean) ∈ gtbl := gm (tm4 72 rfl) rfl
theorem wk_4_73 : Cond.methodLink RX7 100 yX7_numberOf ∈ gtbl := gm (tm4 73 rfl) rfl
theorem wk_4_75 : Cond.instanceMethod yX7_numberOf ∈ gtbl := gm (tm4 75 rfl) rfl
theorem wk_4_76 : Cond.code yX7_numberOf cX7_numberOf 3 (some .int) ∈ gtbl := gm (tm4 76 rfl) rfl
theorem wk_4_77 : Cond.methodLink RX7 92 yX7_draws ∈ gtbl := gm (tm4 77 rfl) rfl
theorem wk_4_79 : Cond.instanceMethod yX7_draws ∈ gtbl := gm (tm4 79 rfl) rfl
theorem wk_4_80 : Cond.code yX7_draws cX7_draws 6 none ∈ gtbl := gm (tm4 80 rfl) rfl
theorem wk_4_81 : Cond.methodLink RX7 85 yX7_lot ∈ gtbl := gm (tm4 81 rfl) rfl
theorem wk_4_83 : Cond.instanceMethod yX7_lot ∈ gtbl := gm (tm4 83 rfl) rfl
theorem wk_4_84 : Cond.code yX7_lot cX7_lot 2 (some .int) ∈ gtbl := gm (tm4 84 rfl) rfl
theorem wk_4_85 : Cond.constant RX7 74 (1664525 : Int32) ∈ gtbl := gm (tm4 85 rfl) rfl
theorem wk_4_86 : Cond.constant RX7 75 (1013904223 : Int32) ∈ gtbl := gm (tm4 86 rfl) rfl
theorem wk_4_87 : Cond.constant RX7 76 (2147483647 : Int32) ∈ gtbl := gm (tm4 87 rfl) rfl
theorem wk_4_88 : Cond.methodLink RX7 88 yX7_changes ∈ gtbl := gm (tm4 88 rfl) rfl
theorem wk_4_90 : Cond.instanceMethod yX7_changes ∈ gtbl := gm (tm4 90 rfl) rfl
theorem wk_4_91 : Cond.code yX7_changes cX7_changes 4 none ∈ gtbl := gm (tm4 91 rfl) rfl
theorem wk_4_92 : Cond.methodLink RL 43 yX7_dayOf ∈ gtbl := gm (tm4 92 rfl) rfl
theorem wk_4_93 : Cond.instanceMethod yX7_dayOf ∈ gtbl := gm (tm4 93 rfl) rfl
theorem wk_4_94 : Cond.selects RX7 yX7_dayOf yX7_dayOf ∈ gtbl := gm (tm4 94 rfl) rfl
theorem wk_4_95 : Cond.code yX7_dayOf cX7_dayOf 6 (some .int) ∈ gtbl := gm (tm4 95 rfl) rfl
theorem wk_4_96 : Cond.methodLink RX7 104 yX7_out ∈ gtbl := gm (tm4 96 rfl) rfl
theorem wk_4_97 : Cond.static yX7_out ∈ gtbl := gm (tm4 97 rfl) rfl
theorem wk_4_98 : Cond.code yX7_out cX7_out 3 (some .int) ∈ gtbl := gm (tm4 98 rfl) rfl
theorem wk_4_99 : Cond.methodLink RL 48 yX7_mean ∈ gtbl := gm (tm4 99 rfl) rfl
theorem wk_4_100 : Cond.instanceMethod yX7_mean ∈ gtbl := gm (tm4 100 rfl) rfl
theorem wk_4_101 : Cond.selects RX7 yX7_mean yX7_mean ∈ gtbl := gm (tm4 101 rfl) rfl
theorem wk_4_102 : Cond.code yX7_mean cX7_mean 4 (some .long) ∈ gtbl := gm (tm4 102 rfl) rfl
theorem wk_4_103 : Cond.methodLink RX7 118 yX7_isMonth ∈ gtbl := gm (tm4 103 rfl) rfl
theorem wk_4_104 : Cond.static yX7_isMonth ∈ gtbl := gm (tm4 104 rfl) rfl
theorem wk_4_105 : Cond.code yX7_isMonth cX7_isMonth 1 (some .boolean) ∈ gtbl := gm (tm4 105 rfl) rfl
theorem wk_4_106 : Cond.methodLink RX7 121 yX7_noLong ∈ gtbl := gm (tm4 106 rfl) rfl
theorem wk_4_108 : Cond.instanceMethod yX7_noLong ∈ gtbl := gm (tm4 108 rfl) rfl
theorem wk_4_109 : Cond.code yX7_noLong cX7_noLong 2 (some .long) ∈ gtbl := gm (tm4 109 rfl) rfl
theorem wk_4_110 : Cond.constantLong RX7 69 (4000000000000000000 : Int64) ∈ gtbl := gm (tm4 110 rfl) rfl
theorem wk_4_111 : Cond.methodLink RX7 125 yX7_isPart ∈ gtbl := gm (tm4 111 rfl) rfl
theorem wk_4_112 : Cond.static yX7_isPart ∈ gtbl := gm (tm4 112 rfl) rfl
theorem wk_4_113 : Cond.code yX7_isPart cX7_isPart 1 (some .boolean) ∈ gtbl := gm (tm4 113 rfl) rfl
theorem wk_4_114 : Cond.methodLink RX7 128 yX7_sumOf ∈ gtbl := gm (tm4 114 rfl) rfl
theorem wk_4_116 : Cond.instanceMethod yX7_sumOf ∈ gtbl := gm (tm4 116 rfl) rfl
theorem wk_4_117 : Cond.code yX7_sumOf cX7_sumOf 6 (some .long) ∈ gtbl := gm (tm4 117 rfl) rfl
theorem wk_4_118 : Cond.methodLink RX7 108 yX7_firstOf ∈ gtbl := gm (tm4 118 rfl) rfl
theorem wk_4_120 : Cond.instanceMethod yX7_firstOf ∈ gtbl := gm (tm4 120 rfl) rfl
theorem wk_4_121 : Cond.code yX7_firstOf cX7_firstOf 4 (some .int) ∈ gtbl := gm (tm4 121 rfl) rfl
theorem wk_4_122 : Cond.methodLink RX7 132 yX7_lessens ∈ gtbl := gm (tm4 122 rfl) rfl
theorem wk_4_124 : Cond.instanceMethod yX7_lessens ∈ gtbl := gm (tm4 124 rfl) rfl
theorem wk_4_125 : Cond.code yX7_lessens cX7_lessens 11 none ∈ gtbl := gm (tm4 125 rfl) rfl
theorem wk_4_126 : Cond.methodLink RX7 136 yX7_told ∈ gtbl := gm (tm4 126 rfl) rfl
theorem wk_4_128 : Cond.instanceMethod yX7_told ∈ gtbl := gm (tm4 128 rfl) rfl
theorem wk_4_129 : Cond.code yX7_told cX7_told 2 (some .long) ∈ gtbl := gm (tm4 129 rfl) rfl
theorem wk_4_130 : Cond.methodLink RL 53 yX7_lean ∈ gtbl := gm (tm4 130 rfl) rfl
theorem wk_4_131 : Cond.instanceMethod yX7_lean ∈ gtbl := gm (tm4 131 rfl) rfl
theorem wk_4_132 : Cond.selects RX7 yX7_lean yX7_lean ∈ gtbl := gm (tm4 132 rfl) rfl
theorem wk_4_133 : Cond.code yX7_lean cX7_lean 5 (some .long) ∈ gtbl := gm (tm4 133 rfl) rfl
theorem wk_4_134 : Cond.constantLong RX7 139 (2 : Int64) ∈ gtbl := gm (tm4 134 rfl) rfl
theorem wk_4_135 : Cond.constantLong RX7 141 (365 : Int64) ∈ gtbl := gm (tm4 135 rfl) rfl
theorem wk_4_136 : Cond.constantLong RX7 143 (367 : Int64) ∈ gtbl := gm (tm4 136 rfl) rfl
theorem wk_4_137 : Cond.methodLink RL 58 yX7_worst ∈ gtbl := gm (tm4 137 rfl) rfl
theorem wk_4_138 : Cond.instanceMethod yX7_worst ∈ gtbl := gm (tm4 138 rfl) rfl
theorem wk_4_139 : Cond.selects RX7 yX7_worst yX7_worst ∈ gtbl := gm (tm4 139 rfl) rfl
theorem wk_4_140 : Cond.code yX7_worst cX7_worst 4 (some .int) ∈ gtbl := gm (tm4 140 rfl) rfl
theorem wk_4_141 : Cond.methodLink RX7 145 yX7_offOf ∈ gtbl := gm (tm4 141 rfl) rfl
theorem wk_4_143 : Cond.instanceMethod yX7_offOf ∈ gtbl := gm (tm4 143 rfl) rfl
theorem wk_4_144 : Cond.code yX7_offOf cX7_offOf 5 (some .long) ∈ gtbl := gm (tm4 144 rfl) rfl
theorem wk_4_145 : Cond.methodLink RL 62 yX7_turned ∈ gtbl := gm (tm4 145 rfl) rfl
theorem wk_4_146 : Cond.instanceMethod yX7_turned ∈ gtbl := gm (tm4 146 rfl) rfl
theorem wk_4_147 : Cond.selects RX7 yX7_turned yX7_turned ∈ gtbl := gm (tm4 147 rfl) rfl
theorem wk_4_148 : Cond.code yX7_turned cX7_turned 5 (some .int) ∈ gtbl := gm (tm4 148 rfl) rfl
theorem wk_4_149 : Cond.methodLink RL 19 yX7_feed ∈ gtbl := gm (tm4 149 rfl) rfl
theorem wk_4_150 : Cond.instanceMethod yX7_feed ∈ gtbl := gm (tm4 150 rfl) rfl
theorem wk_4_151 : Cond.selects RX7 yX7_feed yX7_feed ∈ gtbl := gm (tm4 151 rfl) rfl
theorem wk_4_152 : Cond.code yX7_feed cX7_feed 6 (some .int) ∈ gtbl := gm (tm4 152 rfl) rfl
theorem wk_4_153 : Cond.constantLong RX7 151 (255 : Int64) ∈ gtbl := gm (tm4 153 rfl) rfl
theorem wk_4_154 : Cond.methodLink RL 24 yX7_man ∈ gtbl := gm (tm4 154 rfl) rfl
theorem wk_4_155 : Cond.instanceMethod yX7_man ∈ gtbl := gm (tm4 155 rfl) rfl
theorem wk_4_156 : Cond.selects RX7 yX7_man yX7_man ∈ gtbl := gm (tm4 156 rfl) rfl
theorem wk_4_157 : Cond.code yX7_man cX7_man 2 (some .int) ∈ gtbl := gm (tm4 157 rfl) rfl
theorem wk_4_158 : Cond.methodLink RX7 166 yX7_reads ∈ gtbl := gm (tm4 158 rfl) rfl
theorem wk_4_160 : Cond.instanceMethod yX7_reads ∈ gtbl := gm (tm4 160 rfl) rfl
theorem wk_4_161 : Cond.code yX7_reads cX7_reads 6 (some .boolean) ∈ gtbl := gm (tm4 161 rfl) rfl
theorem wk_4_162 : Cond.methodLink RX7 156 yX7_sign ∈ gtbl := gm (tm4 162 rfl) rfl
theorem wk_4_164 : Cond.instanceMethod yX7_sign ∈ gtbl := gm (tm4 164 rfl) rfl
theorem wk_4_165 : Cond.code yX7_sign cX7_sign 1 (some .int) ∈ gtbl := gm (tm4 165 rfl) rfl
theorem wk_4_166 : Cond.methodLink RX7 160 yX7_number_ ∈ gtbl := gm (tm4 166 rfl) rfl
theorem wk_4_168 : Cond.instanceMethod yX7_number_ ∈ gtbl := gm (tm4 168 rfl) rfl
theorem wk_4_169 : Cond.code yX7_number_ cX7_number_ 4 (some .int) ∈ gtbl := gm (tm4 169 rfl) rfl
theorem wk_4_170 : Cond.methodLink RL 66 yX7_manOf ∈ gtbl := gm (tm4 170 rfl) rfl
theorem wk_4_171 : Cond.instanceMethod yX7_manOf ∈ gtbl := gm (tm4 171 rfl) rfl
theorem wk_4_172 : Cond.selects RX7 yX7_manOf yX7_manOf ∈ gtbl := gm (tm4 172 rfl) rfl
theorem wk_4_173 : Cond.code yX7_manOf cX7_manOf 3 (some .int) ∈ gtbl := gm (tm4 173 rfl) rfl
theorem wk_4_174 : Cond.methodLink RX7 170 yX7_isMan ∈ gtbl := gm (tm4 174 rfl) rfl
theorem wk_4_176 : Cond.instanceMethod yX7_isMan ∈ gtbl := gm (tm4 176 rfl) rfl
theorem wk_4_177 : Cond.code yX7_isMan cX7_isMan 2 (some .boolean) ∈ gtbl := gm (tm4 177 rfl) rfl
theorem wk_4_178 : Cond.methodLink RL 70 yX7_cut ∈ gtbl := gm (tm4 178 rfl) rfl
theorem wk_4_179 : Cond.instanceMethod yX7_cut ∈ gtbl := gm (tm4 179 rfl) rfl
theorem wk_4_180 : Cond.selects RX7 yX7_cut yX7_cut ∈ gtbl := gm (tm4 180 rfl) rfl
theorem wk_4_181 : Cond.code yX7_cut cX7_cut 4 (some .int) ∈ gtbl := gm (tm4 181 rfl) rfl
theorem wk_4_182 : Cond.methodLink RL 74 yX7_law ∈ gtbl := gm (tm4 182 rfl) rfl
theorem wk_4_183 : Cond.instanceMethod yX7_law ∈ gtbl := gm (tm4 183 rfl) rfl
theorem wk_4_184 : Cond.selects RX7 yX7_law yX7_law ∈ gtbl := gm (tm4 184 rfl) rfl
theorem wk_4_185 : Cond.code yX7_law cX7_law 5 (some .int) ∈ gtbl := gm (tm4 185 rfl) rfl
theorem wk_4_186 : Cond.methodLink RL 78 yX7_called ∈ gtbl := gm (tm4 186 rfl) rfl
theorem wk_4_187 : Cond.instanceMethod yX7_called ∈ gtbl := gm (tm4 187 rfl) rfl
theorem wk_4_188 : Cond.selects RX7 yX7_called yX7_called ∈ gtbl := gm (tm4 188 rfl) rfl
theorem wk_4_189 : Cond.code yX7_called cX7_called 3 (some .int) ∈ gtbl := gm (tm4 189 rfl) rfl
theorem wk_4_190 : Cond.methodLink RX7 173 yX7_isCalled ∈ gtbl := gm (tm4 190 rfl) rfl
theorem wk_4_192 : Cond.instanceMethod yX7_isCalled ∈ gtbl := gm (tm4 192 rfl) rfl
theorem wk_4_193 : Cond.code yX7_isCalled cX7_isCalled 3 (some .boolean) ∈ gtbl := gm (tm4 193 rfl) rfl
theorem wk_4_194 : Cond.methodLink RL 82 yX7_served ∈ gtbl := gm (tm4 194 rfl) rfl
theorem wk_4_195 : Cond.instanceMethod yX7_served ∈ gtbl := gm (tm4 195 rfl) rfl
theorem wk_4_196 : Cond.selects RX7 yX7_served yX7_served ∈ gtbl := gm (tm4 196 rfl) rfl
theorem wk_4_197 : Cond.code yX7_served cX7_served 3 (some .int) ∈ gtbl := gm (tm4 197 rfl) rfl
theorem wk_4_198 : Cond.methodLink RX7 177 yX7_servedAs ∈ gtbl := gm (tm4 198 rfl) rfl
theorem wk_4_200 : Cond.instanceMethod yX7_servedAs ∈ gtbl := gm (tm4 200 rfl) rfl
theorem wk_4_201 : Cond.code yX7_servedAs cX7_servedAs 4 (some .int) ∈ gtbl := gm (tm4 201 rfl) rfl
theorem wk_4_202 : Cond.methodLink RL 86 yX7_wage ∈ gtbl := gm (tm4 202 rfl) rfl
theorem wk_4_203 : Cond.instanceMethod yX7_wage ∈ gtbl := gm (tm4 203 rfl) rfl
theorem wk_4_204 : Cond.selects RX7 yX7_wage yX7_wage ∈ gtbl := gm (tm4 204 rfl) rfl
theorem wk_4_205 : Cond.code yX7_wage cX7_wage 5 (some .long) ∈ gtbl := gm (tm4 205 rfl) rfl
theorem wk_4_206 : Cond.methodLink RX7 183 yX7_notYear ∈ gtbl := gm (tm4 206 rfl) rfl
theorem wk_4_207 : Cond.static yX7_notYear ∈ gtbl := gm (tm4 207 rfl) rfl
theorem wk_4_208 : Cond.code yX7_notYear cX7_notYear 1 (some .int) ∈ gtbl := gm (tm4 208 rfl) rfl
theorem wk_4_209 : Cond.methodLink RX7 186 yX7_wageOf ∈ gtbl := gm (tm4 209 rfl) rfl
theorem wk_4_211 : Cond.instanceMethod yX7_wageOf ∈ gtbl := gm (tm4 211 rfl) rfl
theorem wk_4_212 : Cond.code yX7_wageOf cX7_wageOf 7 (some .long) ∈ gtbl := gm (tm4 212 rfl) rfl
theorem wk_4_213 : Cond.methodLink RX7 180 yX7_lossIn ∈ gtbl := gm (tm4 213 rfl) rfl
theorem wk_4_215 : Cond.instanceMethod yX7_lossIn ∈ gtbl := gm (tm4 215 rfl) rfl
theorem wk_4_216 : Cond.code yX7_lossIn cX7_lossIn 3 (some .int) ∈ gtbl := gm (tm4 216 rfl) rfl
theorem wk_4_217 : Cond.methodLink RL 90 yX7_does ∈ gtbl := gm (tm4 217 rfl) rfl
theorem wk_4_218 : Cond.instanceMethod yX7_does ∈ gtbl := gm (tm4 218 rfl) rfl
theorem wk_4_219 : Cond.selects RX7 yX7_does yX7_does ∈ gtbl := gm (tm4 219 rfl) rfl
theorem wk_4_220 : Cond.code yX7_does cX7_does 5 (some .long) ∈ gtbl := gm (tm4 220 rfl) rfl
theorem wk_4_221 : Cond.methodLink RX7 193 yX7_notAsked ∈ gtbl := gm (tm4 221 rfl) rfl
theorem wk_4_223 : Cond.instanceMethod yX7_notAsked ∈ gtbl := gm (tm4 223 rfl) rfl
theorem wk_4_224 : Cond.code yX7_notAsked cX7_notAsked 3 (some .int) ∈ gtbl := gm (tm4 224 rfl) rfl
theorem wk_4_225 : Cond.methodLink RX7 196 yX7_differs ∈ gtbl := gm (tm4 225 rfl) rfl
theorem wk_4_227 : Cond.instanceMethod yX7_differs ∈ gtbl := gm (tm4 227 rfl) rfl
theorem wk_4_228 : Cond.code yX7_differs cX7_differs 14 (some .boolean) ∈ gtbl := gm (tm4 228 rfl) rfl
theorem wk_4_229 : Cond.methodLink RX7 190 yX7_hasServed ∈ gtbl := gm (tm4 229 rfl) rfl
theorem wk_4_231 : Cond.instanceMethod yX7_hasServed ∈ gtbl := gm (tm4 231 rfl) rfl
theorem wk_4_232 : Cond.code yX7_hasServed cX7_hasServed 3 (some .boolean) ∈ gtbl := gm (tm4 232 rfl) rfl
theorem wk_4_233 : Cond.methodLink RL 95 yX7_share ∈ gtbl := gm (tm4 233 rfl) rfl
theorem wk_4_234 : Cond.instanceMethod yX7_share ∈ gtbl := gm (tm4 234 rfl) rfl
theorem wk_4_235 : Cond.selects RX7 yX7_share yX7_share ∈ gtbl := gm (tm4 235 rfl) rfl
theorem wk_4_236 : Cond.code yX7_share cX7_share 4 (some .long) ∈ gtbl := gm (tm4 236 rfl) rfl
theorem wk_4_237 : Cond.methodLink RL 99 yX7_serving ∈ gtbl := gm (tm4 237 rfl) rfl
theorem wk_4_238 : Cond.instanceMethod yX7_serving ∈ gtbl := gm (tm4 238 rfl) rfl
theorem wk_4_239 : Cond.selects RX7 yX7_serving yX7_serving ∈ gtbl := gm (tm4 239 rfl) rfl
theorem wk_5_0 : Cond.code yX7_serving cX7_serving 9 (some .long) ∈ gtbl := gm (tm5 0 rfl) rfl
theorem wk_5_1 : Cond.methodLink RL 103 yX7_truly ∈ gtbl := gm (tm5 1 rfl) rfl
theorem wk_5_2 : Cond.instanceMethod yX7_truly ∈ gtbl := gm (tm5 2 rfl) rfl
theorem wk_5_3 : Cond.selects RX7 yX7_truly yX7_truly ∈ gtbl := gm (tm5 3 rfl) rfl
theorem wk_5_4 : Cond.code yX7_truly cX7_truly 7 (some .long) ∈ gtbl := gm (tm5 4 rfl) rfl
theorem wk_5_5 : Cond.methodLink RL 107 yX7_faded ∈ gtbl := gm (tm5 5 rfl) rfl
theorem wk_5_6 : Cond.instanceMethod yX7_faded ∈ gtbl := gm (tm5 6 rfl) rfl
theorem wk_5_7 : Cond.selects RX7 yX7_faded yX7_faded ∈ gtbl := gm (tm5 7 rfl) rfl
theorem wk_5_8 : Cond.code yX7_faded cX7_faded 5 (some .int) ∈ gtbl := gm (tm5 8 rfl) rfl
theorem wk_5_9 : Cond.methodLink RL 112 yX7_group ∈ gtbl := gm (tm5 9 rfl) rfl
theorem wk_5_10 : Cond.instanceMethod yX7_group ∈ gtbl := gm (tm5 10 rfl) rfl
theorem wk_5_11 : Cond.selects RX7 yX7_group yX7_group ∈ gtbl := gm (tm5 11 rfl) rfl
theorem wk_5_12 : Cond.code yX7_group cX7_group 9 (some .long) ∈ gtbl := gm (tm5 12 rfl) rfl
theorem wk_5_13 : Cond.methodLink RX7 202 yX7_bornIn ∈ gtbl := gm (tm5 13 rfl) rfl
theorem wk_5_15 : Cond.instanceMethod yX7_bornIn ∈ gtbl := gm (tm5 15 rfl) rfl
theorem wk_5_16 : Cond.code yX7_bornIn cX7_bornIn 4 (some .int) ∈ gtbl := gm (tm5 16 rfl) rfl
theorem wk_5_17 : Cond.methodLink RX7 199 yX7_monthOf ∈ gtbl := gm (tm5 17 rfl) rfl
theorem wk_5_19 : Cond.instanceMethod yX7_monthOf ∈ gtbl := gm (tm5 19 rfl) rfl
theorem wk_5_20 : Cond.code yX7_monthOf cX7_monthOf 3 (some .int) ∈ gtbl := gm (tm5 20 rfl) rfl
theorem wk_5_21 : Cond.constantLong RX7 205 (-9 : Int64) ∈ gtbl := gm (tm5 21 rfl) rfl
theorem wk_5_22 : Cond.methodLink RL 116 yX7_least ∈ gtbl := gm (tm5 22 rfl) rfl
theorem wk_5_23 : Cond.instanceMethod yX7_least ∈ gtbl := gm (tm5 23 rfl) rfl
theorem wk_5_24 : Cond.selects RX7 yX7_least yX7_least ∈ gtbl := gm (tm5 24 rfl) rfl
theorem wk_5_25 : Cond.code yX7_least cX7_least 4 (some .int) ∈ gtbl := gm (tm5 25 rfl) rfl
theorem wk_5_26 : Cond.methodLink RL 120 yX7_shown ∈ gtbl := gm (tm5 26 rfl) rfl
theorem wk_5_27 : Cond.instanceMethod yX7_shown ∈ gtbl := gm (tm5 27 rfl) rfl
theorem wk_5_28 : Cond.selects RX7 yX7_shown yX7_shown ∈ gtbl := gm (tm5 28 rfl) rfl
theorem wk_5_29 : Cond.code yX7_shown cX7_shown 3 (some .int) ∈ gtbl := gm (tm5 29 rfl) rfl
theorem wk_5_30 : Cond.methodLink RL 124 yX7_moved ∈ gtbl := gm (tm5 30 rfl) rfl
theorem wk_5_31 : Cond.instanceMethod yX7_moved ∈ gtbl := gm (tm5 31 rfl) rfl
theorem wk_5_32 : Cond.selects RX7 yX7_moved yX7_moved ∈ gtbl := gm (tm5 32 rfl) rfl
theorem wk_5_33 : Cond.code yX7_moved cX7_moved 3 (some .int) ∈ gtbl := gm (tm5 33 rfl) rfl
theorem wk_5_34 : Cond.methodLink RL 128 yX7_cuts ∈ gtbl := gm (tm5 34 rfl) rfl
theorem wk_5_35 : Cond.instanceMethod yX7_cuts ∈ gtbl := gm (tm5 35 rfl) rfl
theorem wk_5_36 : Cond.selects RX7 yX7_cuts yX7_cuts ∈ gtbl := gm (tm5 36 rfl) rfl
theorem wk_5_37 : Cond.code yX7_cuts cX7_cuts 7 (some .int) ∈ gtbl := gm (tm5 37 rfl) rfl
theorem wk_5_38 : Cond.methodLink RL 132 yX7_image ∈ gtbl := gm (tm5 38 rfl) rfl
theorem wk_5_39 : Cond.instanceMethod yX7_image ∈ gtbl := gm (tm5 39 rfl) rfl
theorem wk_5_40 : Cond.selects RX7 yX7_image yX7_image ∈ gtbl := gm (tm5 40 rfl) rfl
theorem wk_5_41 : Cond.code yX7_image cX7_image 1 (some .int) ∈ gtbl := gm (tm5 41 rfl) rfl
theorem wk_5_42 : Cond.methodLink RX7 224 yX7_passesAll ∈ gtbl := gm (tm5 42 rfl) rfl
theorem wk_5_44 : Cond.instanceMethod yX7_passesAll ∈ gtbl := gm (tm5 44 rfl) rfl
theorem wk_5_45 : Cond.code yX7_passesAll cX7_passesAll 1 none ∈ gtbl := gm (tm5 45 rfl) rfl
theorem wk_5_46 : Cond.methodLink RX7 214 yX7_passes ∈ gtbl := gm (tm5 46 rfl) rfl
theorem wk_5_48 : Cond.instanceMethod yX7_passes ∈ gtbl := gm (tm5 48 rfl) rfl
theorem wk_5_49 : Cond.code yX7_passes cX7_passes 3 none ∈ gtbl := gm (tm5 49 rfl) rfl
theorem wk_5_50 : Cond.methodLink RX7 218 yX7_passOne ∈ gtbl := gm (tm5 50 rfl) rfl
theorem wk_5_52 : Cond.instanceMethod yX7_passOne ∈ gtbl := gm (tm5 52 rfl) rfl
theorem wk_5_53 : Cond.code yX7_passOne cX7_passOne 3 (some .int) ∈ gtbl := gm (tm5 53 rfl) rfl
theorem wk_5_54 : Cond.methodLink RL 136 yX7_on ∈ gtbl := gm (tm5 54 rfl) rfl
theorem wk_5_55 : Cond.instanceMethod yX7_on ∈ gtbl := gm (tm5 55 rfl) rfl
theorem wk_5_56 : Cond.selects RX7 yX7_on yX7_on ∈ gtbl := gm (tm5 56 rfl) rfl
theorem wk_5_57 : Cond.code yX7_on cX7_on 1 (some .int) ∈ gtbl := gm (tm5 57 rfl) rfl
theorem wk_5_58 : Cond.methodLink RL 140 yX7_count ∈ gtbl := gm (tm5 58 rfl) rfl
theorem wk_5_59 : Cond.instanceMethod yX7_count ∈ gtbl := gm (tm5 59 rfl) rfl
theorem wk_5_60 : Cond.selects RX7 yX7_count yX7_count ∈ gtbl := gm (tm5 60 rfl) rfl
theorem wk_5_61 : Cond.code yX7_count cX7_count 4 (some .int) ∈ gtbl := gm (tm5 61 rfl) rfl
theorem wk_5_62 : Cond.constantLong RL 13 (4294967295 : Int64) ∈ gtbl := gm (tm5 62 rfl) rfl
theorem sm {q : MethodName × Nat} (h : q ∈ lw_privs) (hg : goodWord (Cond.selects q.1.cls q.1 q.1) = true) : Cond.selects q.1.cls q.1 q.1 ∈ gtbl := List.mem_filter.mpr ⟨List.mem_append_left _ (List.mem_map.mpr ⟨q, h, rfl⟩), hg⟩
theorem wk_p0 : Cond.selects RX0 yX0_draw yX0_draw ∈ gtbl := sm (q := (yX0_draw, 10)) (List.mem_of_getElem? (i := 0) rfl) rfl
theorem wk_p1 : Cond.selects RX0 yX0_layDays yX0_layDays ∈ gtbl := sm (q := (yX0_layDays, 10)) (List.mem_of_getElem? (i := 1) rfl) rfl
theorem wk_p2 : Cond.selects RX0 yX0_shakeRow yX0_shakeRow ∈ gtbl := sm (q := (yX0_shakeRow, 10)) (List.mem_of_getElem? (i := 2) rfl) rfl
theorem wk_p3 : Cond.selects RX0 yX0_lot yX0_lot ∈ gtbl := sm (q := (yX0_lot, 10)) (List.mem_of_getElem? (i := 3) rfl) rfl
theorem wk_p4 : Cond.selects RX0 yX0_swap yX0_swap ∈ gtbl := sm (q := (yX0_swap, 10)) (List.mem_of_getElem? (i := 4) rfl) rfl
theorem wk_p5 : Cond.selects RX0 yX0_turnRow yX0_turnRow ∈ gtbl := sm (q := (yX0_turnRow, 10)) (List.mem_of_getElem? (i := 5) rfl) rfl
theorem wk_p6 : Cond.selects RX0 yX0_drawRow yX0_drawRow ∈ gtbl := sm (q := (yX0_drawRow, 10)) (List.mem_of_getElem? (i := 6) rfl) rfl
theorem wk_p7 : Cond.selects RX0 yX0_closeGap yX0_closeGap ∈ gtbl := sm (q := (yX0_closeGap, 10)) (List.mem_of_getElem? (i := 7) rfl) rfl
theorem wk_p8 : Cond.selects RX5 yX5_hasRoomFor yX5_hasRoomFor ∈ gtbl := sm (q := (yX5_hasRoomFor, 5)) (List.mem_of_getElem? (i := 8) rfl) rfl
theorem wk_p9 : Cond.selects RX6 yX6_refuse yX6_refuse ∈ gtbl := sm (q := (yX6_refuse, 6)) (List.mem_of_getElem? (i := 9) rfl) rfl
theorem wk_p10 : Cond.selects RX5 yX5_append yX5_append ∈ gtbl := sm (q := (yX5_append, 5)) (List.mem_of_getElem? (i := 10) rfl) rfl
theorem wk_p11 : Cond.selects RX5 yX5_read yX5_read ∈ gtbl := sm (q := (yX5_read, 5)) (List.mem_of_getElem? (i := 11) rfl) rfl
theorem wk_p12 : Cond.selects RX5 yX5_byteAt yX5_byteAt ∈ gtbl := sm (q := (yX5_byteAt, 5)) (List.mem_of_getElem? (i := 12) rfl) rfl
theorem wk_p13 : Cond.selects RX5 yX5_endOfDigits yX5_endOfDigits ∈ gtbl := sm (q := (yX5_endOfDigits, 5)) (List.mem_of_getElem? (i := 13) rfl) rfl
theorem wk_p14 : Cond.selects RX5 yX5_isDigit yX5_isDigit ∈ gtbl := sm (q := (yX5_isDigit, 5)) (List.mem_of_getElem? (i := 14) rfl) rfl
theorem wk_p15 : Cond.selects RX5 yX5_valueOf yX5_valueOf ∈ gtbl := sm (q := (yX5_valueOf, 5)) (List.mem_of_getElem? (i := 15) rfl) rfl
theorem wk_p16 : Cond.selects RX5 yX5_empty yX5_empty ∈ gtbl := sm (q := (yX5_empty, 5)) (List.mem_of_getElem? (i := 16) rfl) rfl
theorem wk_p17 : Cond.selects RX2 yX2_enrol yX2_enrol ∈ gtbl := sm (q := (yX2_enrol, 4)) (List.mem_of_getElem? (i := 17) rfl) rfl
theorem wk_p18 : Cond.selects RX1 yX1_jarAt yX1_jarAt ∈ gtbl := sm (q := (yX1_jarAt, 8)) (List.mem_of_getElem? (i := 18) rfl) rfl
theorem wk_p19 : Cond.selects RX0 yX0_prepare yX0_prepare ∈ gtbl := sm (q := (yX0_prepare, 10)) (List.mem_of_getElem? (i := 19) rfl) rfl
theorem wk_p20 : Cond.selects RX0 yX0_turnOver yX0_turnOver ∈ gtbl := sm (q := (yX0_turnOver, 10)) (List.mem_of_getElem? (i := 20) rfl) rfl
theorem wk_p21 : Cond.selects RX0 yX0_numberAt yX0_numberAt ∈ gtbl := sm (q := (yX0_numberAt, 10)) (List.mem_of_getElem? (i := 21) rfl) rfl
theorem wk_p22 : Cond.selects RX0 yX0_dayAt yX0_dayAt ∈ gtbl := sm (q := (yX0_dayAt, 10)) (List.mem_of_getElem? (i := 22) rfl) rfl
theorem wk_p23 : Cond.selects RX6 yX6_refuseLong yX6_refuseLong ∈ gtbl := sm (q := (yX6_refuseLong, 6)) (List.mem_of_getElem? (i := 23) rfl) rfl
theorem wk_p24 : Cond.selects RX0 yX0_monthSum yX0_monthSum ∈ gtbl := sm (q := (yX0_monthSum, 10)) (List.mem_of_getElem? (i := 24) rfl) rfl
theorem wk_p25 : Cond.selects RX3 yX3_become yX3_become ∈ gtbl := sm (q := (yX3_become, 2)) (List.mem_of_getElem? (i := 25) rfl) rfl
theorem wk_p26 : Cond.selects RX3 yX3_partAt yX3_partAt ∈ gtbl := sm (q := (yX3_partAt, 2)) (List.mem_of_getElem? (i := 26) rfl) rfl
theorem wk_p27 : Cond.selects RX0 yX0_leaning yX0_leaning ∈ gtbl := sm (q := (yX0_leaning, 10)) (List.mem_of_getElem? (i := 27) rfl) rfl
theorem wk_p28 : Cond.selects RX0 yX0_worstMonth yX0_worstMonth ∈ gtbl := sm (q := (yX0_worstMonth, 10)) (List.mem_of_getElem? (i := 28) rfl) rfl
theorem wk_p29 : Cond.selects RX0 yX0_monthDistance yX0_monthDistance ∈ gtbl := sm (q := (yX0_monthDistance, 10)) (List.mem_of_getElem? (i := 29) rfl) rfl
theorem wk_p30 : Cond.selects RX0 yX0_turnedPairs yX0_turnedPairs ∈ gtbl := sm (q := (yX0_turnedPairs, 10)) (List.mem_of_getElem? (i := 30) rfl) rfl
theorem wk_p31 : Cond.selects RX0 yX0_seenAbove yX0_seenAbove ∈ gtbl := sm (q := (yX0_seenAbove, 10)) (List.mem_of_getElem? (i := 31) rfl) rfl
theorem wk_p32 : Cond.selects RX0 yX0_markSeen yX0_markSeen ∈ gtbl := sm (q := (yX0_markSeen, 10)) (List.mem_of_getElem? (i := 32) rfl) rfl
theorem wk_p33 : Cond.selects RX6 yX6_isMan yX6_isMan ∈ gtbl := sm (q := (yX6_isMan, 6)) (List.mem_of_getElem? (i := 33) rfl) rfl
theorem wk_p34 : Cond.selects RX2 yX2_kindAt yX2_kindAt ∈ gtbl := sm (q := (yX2_kindAt, 4)) (List.mem_of_getElem? (i := 34) rfl) rfl
theorem wk_p35 : Cond.selects RX2 yX2_birthdayAt yX2_birthdayAt ∈ gtbl := sm (q := (yX2_birthdayAt, 4)) (List.mem_of_getElem? (i := 35) rfl) rfl
theorem wk_p36 : Cond.selects RX2 yX2_payAt yX2_payAt ∈ gtbl := sm (q := (yX2_payAt, 4)) (List.mem_of_getElem? (i := 36) rfl) rfl
theorem wk_p37 : Cond.selects RX1 yX1_isCalledBy yX1_isCalledBy ∈ gtbl := sm (q := (yX1_isCalledBy, 8)) (List.mem_of_getElem? (i := 37) rfl) rfl
theorem wk_p38 : Cond.selects RX1 yX1_numberOfMan yX1_numberOfMan ∈ gtbl := sm (q := (yX1_numberOfMan, 8)) (List.mem_of_getElem? (i := 38) rfl) rfl
theorem wk_p39 : Cond.selects RX1 yX1_isCalled yX1_isCalled ∈ gtbl := sm (q := (yX1_isCalled, 8)) (List.mem_of_getElem? (i := 39) rfl) rfl
theorem wk_p40 : Cond.selects RX1 yX1_serviceOf yX1_serviceOf ∈ gtbl := sm (q := (yX1_serviceOf, 8)) (List.mem_of_getElem? (i := 40) rfl) rfl
theorem wk_p41 : Cond.selects RX1 yX1_serviceBy yX1_serviceBy ∈ gtbl := sm (q := (yX1_serviceBy, 8)) (List.mem_of_getElem? (i := 41) rfl) rfl
theorem wk_p42 : Cond.selects RX1 yX1_wageOf yX1_wageOf ∈ gtbl := sm (q := (yX1_wageOf, 8)) (List.mem_of_getElem? (i := 42) rfl) rfl
theorem wk_p43 : Cond.selects RX1 yX1_changeByService yX1_changeByService ∈ gtbl := sm (q := (yX1_changeByService, 8)) (List.mem_of_getElem? (i := 43) rfl) rfl
theorem wk_p44 : Cond.selects RX1 yX1_lossLeft yX1_lossLeft ∈ gtbl := sm (q := (yX1_lossLeft, 8)) (List.mem_of_getElem? (i := 44) rfl) rfl
theorem wk_p45 : Cond.selects RX1 yX1_findDoes yX1_findDoes ∈ gtbl := sm (q := (yX1_findDoes, 8)) (List.mem_of_getElem? (i := 45) rfl) rfl
theorem wk_p46 : Cond.selects RX4 yX4_clear yX4_clear ∈ gtbl := sm (q := (yX4_clear, 4)) (List.mem_of_getElem? (i := 46) rfl) rfl
theorem wk_p47 : Cond.selects RX4 yX4_enter yX4_enter ∈ gtbl := sm (q := (yX4_enter, 4)) (List.mem_of_getElem? (i := 47) rfl) rfl
theorem wk_p48 : Cond.selects RX4 yX4_findGap yX4_findGap ∈ gtbl := sm (q := (yX4_findGap, 4)) (List.mem_of_getElem? (i := 48) rfl) rfl
theorem wk_p49 : Cond.selects RX6 yX6_partOrNone yX6_partOrNone ∈ gtbl := sm (q := (yX6_partOrNone, 6)) (List.mem_of_getElem? (i := 49) rfl) rfl
theorem wk_p50 : Cond.selects RX1 yX1_findShare yX1_findShare ∈ gtbl := sm (q := (yX1_findShare, 8)) (List.mem_of_getElem? (i := 50) rfl) rfl
theorem wk_p51 : Cond.selects RX1 yX1_hasServed yX1_hasServed ∈ gtbl := sm (q := (yX1_hasServed, 8)) (List.mem_of_getElem? (i := 51) rfl) rfl
theorem wk_p52 : Cond.selects RX1 yX1_findServing yX1_findServing ∈ gtbl := sm (q := (yX1_findServing, 8)) (List.mem_of_getElem? (i := 52) rfl) rfl
theorem wk_p53 : Cond.selects RX1 yX1_findTruly yX1_findTruly ∈ gtbl := sm (q := (yX1_findTruly, 8)) (List.mem_of_getElem? (i := 53) rfl) rfl
theorem wk_p54 : Cond.selects RX1 yX1_servesOnlyIfCalled yX1_servesOnlyIfCalled ∈ gtbl := sm (q := (yX1_servesOnlyIfCalled, 8)) (List.mem_of_getElem? (i := 54) rfl) rfl
theorem wk_p55 : Cond.selects RX3 yX3_isWithin yX3_isWithin ∈ gtbl := sm (q := (yX3_isWithin, 2)) (List.mem_of_getElem? (i := 55) rfl) rfl
theorem wk_p56 : Cond.selects RX1 yX1_isShown yX1_isShown ∈ gtbl := sm (q := (yX1_isShown, 8)) (List.mem_of_getElem? (i := 56) rfl) rfl
theorem wk_p57 : Cond.selects RX1 yX1_menOfMonth yX1_menOfMonth ∈ gtbl := sm (q := (yX1_menOfMonth, 8)) (List.mem_of_getElem? (i := 57) rfl) rfl
theorem wk_p58 : Cond.selects RX1 yX1_findGroup yX1_findGroup ∈ gtbl := sm (q := (yX1_findGroup, 8)) (List.mem_of_getElem? (i := 58) rfl) rfl
theorem wk_p59 : Cond.selects RX1 yX1_leastCutFor yX1_leastCutFor ∈ gtbl := sm (q := (yX1_leastCutFor, 8)) (List.mem_of_getElem? (i := 59) rfl) rfl
theorem wk_p60 : Cond.selects RX1 yX1_menWithNumberUpTo yX1_menWithNumberUpTo ∈ gtbl := sm (q := (yX1_menWithNumberUpTo, 8)) (List.mem_of_getElem? (i := 60) rfl) rfl
theorem wk_p61 : Cond.selects RX1 yX1_copyLottery yX1_copyLottery ∈ gtbl := sm (q := (yX1_copyLottery, 8)) (List.mem_of_getElem? (i := 61) rfl) rfl
theorem wk_p62 : Cond.selects RX0 yX0_copyJar yX0_copyJar ∈ gtbl := sm (q := (yX0_copyJar, 10)) (List.mem_of_getElem? (i := 62) rfl) rfl
theorem wk_p63 : Cond.selects RX2 yX2_copyMen yX2_copyMen ∈ gtbl := sm (q := (yX2_copyMen, 4)) (List.mem_of_getElem? (i := 63) rfl) rfl
theorem wk_p64 : Cond.selects RX1 yX1_menWhoServed yX1_menWhoServed ∈ gtbl := sm (q := (yX1_menWhoServed, 8)) (List.mem_of_getElem? (i := 64) rfl) rfl
theorem wk_p65 : Cond.selects RX7 yX7_no yX7_no ∈ gtbl := sm (q := (yX7_no, 28)) (List.mem_of_getElem? (i := 65) rfl) rfl
theorem wk_p66 : Cond.selects RX7 yX7_numberOf yX7_numberOf ∈ gtbl := sm (q := (yX7_numberOf, 28)) (List.mem_of_getElem? (i := 66) rfl) rfl
theorem wk_p67 : Cond.selects RX7 yX7_draws yX7_draws ∈ gtbl := sm (q := (yX7_draws, 28)) (List.mem_of_getElem? (i := 67) rfl) rfl
theorem wk_p68 : Cond.selects RX7 yX7_lot yX7_lot ∈ gtbl := sm (q := (yX7_lot, 28)) (List.mem_of_getElem? (i := 68) rfl) rfl
theorem wk_p69 : Cond.selects RX7 yX7_changes yX7_changes ∈ gtbl := sm (q := (yX7_changes, 28)) (List.mem_of_getElem? (i := 69) rfl) rfl
theorem wk_p70 : Cond.selects RX7 yX7_noLong yX7_noLong ∈ gtbl := sm (q := (yX7_noLong, 28)) (List.mem_of_getElem? (i := 70) rfl) rfl
theorem wk_p71 : Cond.selects RX7 yX7_sumOf yX7_sumOf ∈ gtbl := sm (q := (yX7_sumOf, 28)) (List.mem_of_getElem? (i := 71) rfl) rfl
theorem wk_p72 : Cond.selects RX7 yX7_firstOf yX7_firstOf ∈ gtbl := sm (q := (yX7_firstOf, 28)) (List.mem_of_getElem? (i := 72) rfl) rfl
theorem wk_p73 : Cond.selects RX7 yX7_lessens yX7_lessens ∈ gtbl := sm (q := (yX7_lessens, 28)) (List.mem_of_getElem? (i := 73) rfl) rfl
theorem wk_p74 : Cond.selects RX7 yX7_told yX7_told ∈ gtbl := sm (q := (yX7_told, 28)) (List.mem_of_getElem? (i := 74) rfl) rfl
theorem wk_p75 : Cond.selects RX7 yX7_offOf yX7_offOf ∈ gtbl := sm (q := (yX7_offOf, 28)) (List.mem_of_getElem? (i := 75) rfl) rfl
theorem wk_p76 : Cond.selects RX7 yX7_reads yX7_reads ∈ gtbl := sm (q := (yX7_reads, 28)) (List.mem_of_getElem? (i := 76) rfl) rfl
theorem wk_p77 : Cond.selects RX7 yX7_sign yX7_sign ∈ gtbl := sm (q := (yX7_sign, 28)) (List.mem_of_getElem? (i := 77) rfl) rfl
theorem wk_p78 : Cond.selects RX7 yX7_number_ yX7_number_ ∈ gtbl := sm (q := (yX7_number_, 28)) (List.mem_of_getElem? (i := 78) rfl) rfl
theorem wk_p79 : Cond.selects RX7 yX7_isMan yX7_isMan ∈ gtbl := sm (q := (yX7_isMan, 28)) (List.mem_of_getElem? (i := 79) rfl) rfl
theorem wk_p80 : Cond.selects RX7 yX7_isCalled yX7_isCalled ∈ gtbl := sm (q := (yX7_isCalled, 28)) (List.mem_of_getElem? (i := 80) rfl) rfl
theorem wk_p81 : Cond.selects RX7 yX7_servedAs yX7_servedAs ∈ gtbl := sm (q := (yX7_servedAs, 28)) (List.mem_of_getElem? (i := 81) rfl) rfl
theorem wk_p82 : Cond.selects RX7 yX7_wageOf yX7_wageOf ∈ gtbl := sm (q := (yX7_wageOf, 28)) (List.mem_of_getElem? (i := 82) rfl) rfl
theorem wk_p83 : Cond.selects RX7 yX7_lossIn yX7_lossIn ∈ gtbl := sm (q := (yX7_lossIn, 28)) (List.mem_of_getElem? (i := 83) rfl) rfl
theorem wk_p84 : Cond.selects RX7 yX7_notAsked yX7_notAsked ∈ gtbl := sm (q := (yX7_notAsked, 28)) (List.mem_of_getElem? (i := 84) rfl) rfl
theorem wk_p85 : Cond.selects RX7 yX7_differs yX7_differs ∈ gtbl := sm (q := (yX7_differs, 28)) (List.mem_of_getElem? (i := 85) rfl) rfl
theorem wk_p86 : Cond.selects RX7 yX7_hasServed yX7_hasServed ∈ gtbl := sm (q := (yX7_hasServed, 28)) (List.mem_of_getElem? (i := 86) rfl) rfl
theorem wk_p87 : Cond.selects RX7 yX7_bornIn yX7_bornIn ∈ gtbl := sm (q := (yX7_bornIn, 28)) (List.mem_of_getElem? (i := 87) rfl) rfl
theorem wk_p88 : Cond.selects RX7 yX7_monthOf yX7_monthOf ∈ gtbl := sm (q := (yX7_monthOf, 28)) (List.mem_of_getElem? (i := 88) rfl) rfl
theorem wk_p89 : Cond.selects RX7 yX7_passesAll yX7_passesAll ∈ gtbl := sm (q := (yX7_passesAll, 28)) (List.mem_of_getElem? (i := 89) rfl) rfl
theorem wk_p90 : Cond.selects RX7 yX7_passes yX7_passes ∈ gtbl := sm (q := (yX7_passes, 28)) (List.mem_of_getElem? (i := 90) rfl) rfl
theorem wk_p91 : Cond.selects RX7 yX7_passOne yX7_passOne ∈ gtbl := sm (q := (yX7_passOne, 28)) (List.mem_of_getElem? (i := 91) rfl) rfl
end
section
theorem dX0_init_0 : decode cX0_init 0 = .ok (.aload_n 0, 1) := by decide +kernel
theorem dX0_init_1 : decode cX0_init 1 = .ok (.invokespecial 3, 3) := by decide +kernel
theorem dX0_init_4 : decode cX0_init 4 = .ok (.aload_n 0, 1) := by decide +kernel
theorem dX0_init_5 : decode cX0_init 5 = .ok (.iconst 1, 1) := by decide +kernel
theorem dX0_init_6 : decode cX0_init 6 = .ok (.putfield 9, 3) := by decide +kernel
theorem dX0_init_9 : decode cX0_init 9 = .ok (.aload_n 0, 1) := by decide +kernel
theorem dX0_init_10 : decode cX0_init 10 = .ok (.bipush 100, 2) := by decide +kernel
theorem dX0_init_12 : decode cX0_init 12 = .ok (.putfield 15, 3) := by decide +kernel
theorem dX0_init_15 : decode cX0_init 15 = .ok (.aload_n 0, 1) := by decide +kernel
theorem dX0_init_16 : decode cX0_init 16 = .ok (.bipush 20, 2) := by decide +kernel
theorem dX0_init_18 : decode cX0_init 18 = .ok (.putfield 18, 3) := by decide +kernel
theorem dX0_init_21 : decode cX0_init 21 = .ok (.aload_n 0, 1) := by decide +kernel
theorem dX0_init_22 : decode cX0_init 22 = .ok (.iconst 1, 1) := by decide +kernel
theorem dX0_init_23 : decode cX0_init 23 = .ok (.putfield 21, 3) := by decide +kernel
theorem dX0_init_26 : decode cX0_init 26 = .ok (.aload_n 0, 1) := by decide +kernel
theorem dX0_init_27 : decode cX0_init 27 = .ok (.iconst 1, 1) := by decide +kernel
theorem dX0_init_28 : decode cX0_init 28 = .ok (.putfield 24, 3) := by decide +kernel
theorem dX0_init_31 : decode cX0_init 31 = .ok (.aload_n 0, 1) := by decide +kernel
theorem dX0_init_32 : decode cX0_init 32 = .ok (.sipush 366, 3) := by decide +kernel
theorem dX0_init_35 : decode cX0_init 35 = .ok (.newarray .int, 2) := by decide +kernel
theorem dX0_init_37 : decode cX0_init 37 = .ok (.putfield 28, 3) := by decide +kernel
theorem dX0_init_40 : decode cX0_init 40 = .ok (.aload_n 0, 1) := by decide +kernel
theorem dX0_init_41 : decode cX0_init 41 = .ok (.sipush 367, 3) := by decide +kernel
theorem dX0_init_44 : decode cX0_init 44 = .ok (.newarray .int, 2) := by decide +kernel
theorem dX0_init_46 : decode cX0_init 46 = .ok (.putfield 32, 3) := by decide +kernel
theorem dX0_init_49 : decode cX0_init 49 = .ok (.aload_n 0, 1) := by decide +kernel
theorem dX0_init_50 : decode cX0_init 50 = .ok (.sipush 366, 3) := by decide +kernel
theorem dX0_init_53 : decode cX0_init 53 = .ok (.newarray .int, 2) := by decide +kernel
theorem dX0_init_55 : decode cX0_init 55 = .ok (.putfield 35, 3) := by decide +kernel
theorem dX0_init_58 : decode cX0_init 58 = .ok (.aload_n 0, 1) := by decide +kernel
theorem dX0_init_59 : decode cX0_init 59 = .ok (.bipush 6, 2) := by decide +kernel
theorem dX0_init_61 : decode cX0_init 61 = .ok (.newarray .long, 2) := by decide +kernel
theorem dX0_init_63 : decode cX0_init 63 = .ok (.putfield 38, 3) := by decide +kernel
theorem dX0_init_66 : decode cX0_init 66 = .ok (.aload_n 0, 1) := by decide +kernel
theorem dX0_init_67 : decode cX0_init 67 = .ok (.iconst 0, 1) := by decide +kernel
theorem dX0_init_68 : decode cX0_init 68 = .ok (.putfield 42, 3) := by decide +kernel
theorem dX0_init_71 : decode cX0_init 71 = .ok (.aload_n 0, 1) := by decide +kernel
theorem dX0_init_72 : decode cX0_init 72 = .ok (.invokevirtual 45, 3) := by decide +kernel
theorem dX0_init_75 : decode cX0_init 75 = .ok (.return_, 1) := by decide +kernel
set_option maxRecDepth 20000 in
theorem dX0_prepare_0 : decode cX0_prepare 0 = .ok (.aload_n 0, 1) := by decide +kernel
theorem dX0_prepare_1 : decode cX0_prepare 1 = .ok (.iload_n 1, 1) := by decide +kernel
theorem dX0_prepare_2 : decode cX0_prepare 2 = .ok (.putfield 9, 3) := by decide +kernel
theorem dX0_prepare_5 : decode cX0_prepare 5 = .ok (.aload_n 0, 1) := by decide +kernel
theorem dX0_prepare_6 : decode cX0_prepare 6 = .ok (.iload_n 2, 1) := by decide +kernel
theorem dX0_prepare_7 : decode cX0_prepare 7 = .ok (.putfield 15, 3) := by decide +kernel
theorem dX0_prepare_10 : decode cX0_prepare 10 = .ok (.aload_n 0, 1) := by decide +kernel
theorem dX0_prepare_11 : decode cX0_prepare 11 = .ok (.iload_n 3, 1) := by decide +kernel
theorem dX0_prepare_12 : decode cX0_prepare 12 = .ok (.putfield 18, 3) := by decide +kernel
theorem dX0_prepare_15 : decode cX0_prepare 15 = .ok (.aload_n 0, 1) := by decide +kernel
theorem dX0_prepare_16 : decode cX0_prepare 16 = .ok (.iload 4, 2) := by decide +kernel
theorem dX0_prepare_18 : decode cX0_prepare 18 = .ok (.putfield 21, 3) := by decide +kernel
theorem dX0_prepare_21 : decode cX0_prepare 21 = .ok (.aload_n 0, 1) := by decide +kernel
theorem dX0_prepare_22 : decode cX0_prepare 22 = .ok (.invokevirtual 45, 3) := by decide +kernel
theorem dX0_prepare_25 : decode cX0_prepare 25 = .ok (.return_, 1) := by decide +kernel
set_option maxRecDepth 20000 in
theorem dX0_turnOver_0 : decode cX0_turnOver 0 = .ok (.aload_n 0, 1) := by decide +kernel
theorem dX0_turnOver_1 : decode cX0_turnOver 1 = .ok (.getfield 24, 3) := by decide +kernel
theorem dX0_turnOver_4 : decode cX0_turnOver 4 = .ok (.iload_n 1, 1) := by decide +kernel
theorem dX0_turnOver_5 : decode cX0_turnOver 5 = .ok (.if_icmp .ne 5, 3) := by decide +kernel
theorem dX0_turnOver_8 : decode cX0_turnOver 8 = .ok (.iconst 0, 1) := by decide +kernel
theorem dX0_turnOver_9 : decode cX0_turnOver 9 = .ok (.ireturn, 1) := by decide +kernel
theorem dX0_turnOver_10 : decode cX0_turnOver 10 = .ok (.aload_n 0, 1) := by decide +kernel
theorem dX0_turnOver_11 : decode cX0_turnOver 11 = .ok (.iload_n 1, 1) := by decide +kernel
theorem dX0_turnOver_12 : decode cX0_turnOver 12 = .ok (.putfield 24, 3) := by decide +kernel
theorem dX0_turnOver_15 : decode cX0_turnOver 15 = .ok (.aload_n 0, 1) := by decide +kernel
theorem dX0_turnOver_16 : decode cX0_turnOver 16 = .ok (.invokevirtual 45, 3) := by decide +kernel
theorem dX0_turnOver_19 : decode cX0_turnOver 19 = .ok (.iconst 1, 1) := by decide +kernel
theorem dX0_turnOver_20 : decode cX0_turnOver 20 = .ok (.ireturn, 1) := by decide +kernel
set_option maxRecDepth 20000 in
theorem dX0_copyJar_0 : decode cX0_copyJar 0 = .ok (.aload_n 0, 1) := by decide +kernel
theorem dX0_copyJar_1 : decode cX0_copyJar 1 = .ok (.aload_n 1, 1) := by decide +kernel
theorem dX0_copyJar_2 : decode cX0_copyJar 2 = .ok (.getfield 9, 3) := by decide +kernel
theorem dX0_copyJar_5 : decode cX0_copyJar 5 = .ok (.putfield 9, 3) := by decide +kernel
theorem dX0_copyJar_8 : decode cX0_copyJar 8 = .ok (.aload_n 0, 1) := by decide +kernel
theorem dX0_copyJar_9 : decode cX0_copyJar 9 = .ok (.aload_n 1, 1) := by decide +kernel
theorem dX0_copyJar_10 : decode cX0_copyJar 10 = .ok (.getfield 15, 3) := by decide +kernel
theorem dX0_copyJar_13 : decode cX0_copyJar 13 = .ok (.putfield 15, 3) := by decide +kernel
theorem dX0_copyJar_16 : decode cX0_copyJar 16 = .ok (.aload_n 0, 1) := by decide +kernel
theorem dX0_copyJar_17 : decode cX0_copyJar 17 = .ok (.aload_n 1, 1) := by decide +kernel
theorem dX0_copyJar_18 : decode cX0_copyJar 18 = .ok (.getfield 18, 3) := by decide +kernel
theorem dX0_copyJar_21 : decode cX0_copyJar 21 = .ok (.putfield 18, 3) := by decide +kernel
theorem dX0_copyJar_24 : decode cX0_copyJar 24 = .ok (.aload_n 0, 1) := by decide +kernel
theorem dX0_copyJar_25 : decode cX0_copyJar 25 = .ok (.aload_n 1, 1) := by decide +kernel
theorem dX0_copyJar_26 : decode cX0_copyJar 26 = .ok (.getfield 21, 3) := by decide +kernel
theorem dX0_copyJar_29 : decode cX0_copyJar 29 = .ok (.putfield 21, 3) := by decide +kernel
theorem dX0_copyJar_32 : decode cX0_copyJar 32 = .ok (.aload_n 0, 1) := by decide +kernel
theorem dX0_copyJar_33 : decode cX0_copyJar 33 = .ok (.aload_n 1, 1) := by decide +kernel
theorem dX0_copyJar_34 : decode cX0_copyJar 34 = .ok (.getfield 24, 3) := by decide +kernel
theorem dX0_copyJar_37 : decode cX0_copyJar 37 = .ok (.putfield 24, 3) := by decide +kernel
theorem dX0_copyJar_40 : decode cX0_copyJar 40 = .ok (.aload_n 1, 1) := by decide +kernel
theorem dX0_copyJar_41 : decode cX0_copyJar 41 = .ok (.getfield 28, 3) := by decide +kernel
theorem dX0_copyJar_44 : decode cX0_copyJar 44 = .ok (.aload_n 0, 1) := by decide +kernel
theorem dX0_copyJar_45 : decode cX0_copyJar 45 = .ok (.getfield 28, 3) := by decide +kernel
theorem dX0_copyJar_48 : decode cX0_copyJar 48 = .ok (.invokestatic 48, 3) := by decide +kernel
theorem dX0_copyJar_51 : decode cX0_copyJar 51 = .ok (.aload_n 1, 1) := by decide +kernel
theorem dX0_copyJar_52 : decode cX0_copyJar 52 = .ok (.getfield 32, 3) := by decide +kernel
theorem dX0_copyJar_55 : decode cX0_copyJar 55 = .ok (.aload_n 0, 1) := by decide +kernel
theorem dX0_copyJar_56 : decode cX0_copyJar 56 = .ok (.getfield 32, 3) := by decide +kernel
theorem dX0_copyJar_59 : decode cX0_copyJar 59 = .ok (.invokestatic 48, 3) := by decide +kernel
theorem dX0_copyJar_62 : decode cX0_copyJar 62 = .ok (.return_, 1) := by decide +kernel
set_option maxRecDepth 20000 in
theorem dX0_draw_0 : decode cX0_draw 0 = .ok (.aload_n 0, 1) := by decide +kernel
theorem dX0_draw_1 : decode cX0_draw 1 = .ok (.aload_n 0, 1) := by decide +kernel
theorem dX0_draw_2 : decode cX0_draw 2 = .ok (.getfield 9, 3) := by decide +kernel
theorem dX0_draw_5 : decode cX0_draw 5 = .ok (.putfield 42, 3) := by decide +kernel
theorem dX0_draw_8 : decode cX0_draw 8 = .ok (.aload_n 0, 1) := by decide +kernel
theorem dX0_draw_9 : decode cX0_draw 9 = .ok (.invokevirtual 52, 3) := by decide +kernel
theorem dX0_draw_12 : decode cX0_draw 12 = .ok (.aload_n 0, 1) := by decide +kernel
theorem dX0_draw_13 : decode cX0_draw 13 = .ok (.invokevirtual 55, 3) := by decide +kernel
theorem dX0_draw_16 : decode cX0_draw 16 = .ok (.aload_n 0, 1) := by decide +kernel
theorem dX0_draw_17 : decode cX0_draw 17 = .ok (.getfield 24, 3) := by decide +kernel
theorem dX0_draw_20 : decode cX0_draw 20 = .ok (.ifCond .eq 7, 3) := by decide +kernel
theorem dX0_draw_23 : decode cX0_draw 23 = .ok (.aload_n 0, 1) := by decide +kernel
theorem dX0_draw_24 : decode cX0_draw 24 = .ok (.invokevirtual 58, 3) := by decide +kernel
theorem dX0_draw_27 : decode cX0_draw 27 = .ok (.aload_n 0, 1) := by decide +kernel
theorem dX0_draw_28 : decode cX0_draw 28 = .ok (.invokevirtual 61, 3) := by decide +kernel
theorem dX0_draw_31 : decode cX0_draw 31 = .ok (.return_, 1) := by decide +kernel
theorem dX0_lot_0 : decode cX0_lot 0 = .ok (.aload_n 0, 1) := by decide +kernel
theorem dX0_lot_1 : decode cX0_lot 1 = .ok (.aload_n 0, 1) := by decide +kernel
theorem dX0_lot_2 : decode cX0_lot 2 = .ok (.getfield 42, 3) := by decide +kernel
theorem dX0_lot_5 : decode cX0_lot 5 = .ok (.ldc 64, 2) := by decide +kernel
theorem dX0_lot_7 : decode cX0_lot 7 = .ok (.imul, 1) := by decide +kernel
theorem dX0_lot_8 : decode cX0_lot 8 = .ok (.ldc 65, 2) := by decide +kernel
theorem dX0_lot_10 : decode cX0_lot 10 = .ok (.iadd, 1) := by decide +kernel
theorem dX0_lot_11 : decode cX0_lot 11 = .ok (.putfield 42, 3) := by decide +kernel
theorem dX0_lot_14 : decode cX0_lot 14 = .ok (.iload_n 1, 1) := by decide +kernel
theorem dX0_lot_15 : decode cX0_lot 15 = .ok (.iconst 1, 1) := by decide +kernel
theorem dX0_lot_16 : decode cX0_lot 16 = .ok (.if_icmp .ge 7, 3) := by decide +kernel
theorem dX0_lot_19 : decode cX0_lot 19 = .ok (.iconst 0, 1) := by decide +kernel
theorem dX0_lot_20 : decode cX0_lot 20 = .ok (.goto 16, 3) := by decide +kernel
theorem dX0_lot_23 : decode cX0_lot 23 = .ok (.aload_n 0, 1) := by decide +kernel
theorem dX0_lot_24 : decode cX0_lot 24 = .ok (.getfield 42, 3) := by decide +kernel
theorem dX0_lot_27 : decode cX0_lot 27 = .ok (.ldc 66, 2) := by decide +kernel
theorem dX0_lot_29 : decode cX0_lot 29 = .ok (.iand, 1) := by decide +kernel
theorem dX0_lot_30 : decode cX0_lot 30 = .ok (.sipush 256, 3) := by decide +kernel
theorem dX0_lot_33 : decode cX0_lot 33 = .ok (.idiv, 1) := by decide +kernel
theorem dX0_lot_34 : decode cX0_lot 34 = .ok (.iload_n 1, 1) := by decide +kernel
theorem dX0_lot_35 : decode cX0_lot 35 = .ok (.irem, 1) := by decide +kernel
theorem dX0_lot_36 : decode cX0_lot 36 = .ok (.ireturn, 1) := by decide +kernel
set_option maxRecDepth 20000 in
theorem dX0_layDays_0 : decode cX0_layDays 0 = .ok (.iconst 0, 1) := by decide +kernel
theorem dX0_layDays_1 : decode cX0_layDays 1 = .ok (.istore_n 1, 1) := by decide +kernel
theorem dX0_layDays_2 : decode cX0_layDays 2 = .ok (.iload_n 1, 1) := by decide +kernel
theorem dX0_layDays_3 : decode cX0_layDays 3 = .ok (.sipush 366, 3) := by decide +kernel
theorem dX0_layDays_6 : decode cX0_layDays 6 = .ok (.if_icmp .ge 18, 3) := by decide +kernel
theorem dX0_layDays_9 : decode cX0_layDays 9 = .ok (.aload_n 0, 1) := by decide +kernel
theorem dX0_layDays_10 : decode cX0_layDays 10 = .ok (.getfield 35, 3) := by decide +kernel
theorem dX0_layDays_13 : decode cX0_layDays 13 = .ok (.iload_n 1, 1) := by decide +kernel
theorem dX0_layDays_14 : decode cX0_layDays 14 = .ok (.iload_n 1, 1) := by decide +kernel
theorem dX0_layDays_15 : decode cX0_layDays 15 = .ok (.invokestatic 67, 3) := by decide +kernel
theorem dX0_layDays_18 : decode cX0_layDays 18 = .ok (.iinc 1 1, 3) := by decide +kernel
theorem dX0_layDays_21 : decode cX0_layDays 21 = .ok (.goto (-19), 3) := by decide +kernel
theorem dX0_layDays_24 : decode cX0_layDays 24 = .ok (.return_, 1) := by decide +kernel
set_option maxRecDepth 20000 in
theorem dX0_shakeRow_0 : decode cX0_shakeRow 0 = .ok (.iconst 0, 1) := by decide +kernel
theorem dX0_shakeRow_1 : decode cX0_shakeRow 1 = .ok (.istore_n 1, 1) := by decide +kernel
theorem dX0_shakeRow_2 : decode cX0_shakeRow 2 = .ok (.iload_n 1, 1) := by decide +kernel
theorem dX0_shakeRow_3 : decode cX0_shakeRow 3 = .ok (.aload_n 0, 1) := by decide +kernel
theorem dX0_shakeRow_4 : decode cX0_shakeRow 4 = .ok (.getfield 15, 3) := by decide +kernel
theorem dX0_shakeRow_7 : decode cX0_shakeRow 7 = .ok (.if_icmp .ge 53, 3) := by decide +kernel
theorem dX0_shakeRow_10 : decode cX0_shakeRow 10 = .ok (.aload_n 0, 1) := by decide +kernel
theorem dX0_shakeRow_11 : decode cX0_shakeRow 11 = .ok (.sipush 366, 3) := by decide +kernel
theorem dX0_shakeRow_14 : decode cX0_shakeRow 14 = .ok (.invokevirtual 71, 3) := by decide +kernel
theorem dX0_shakeRow_17 : decode cX0_shakeRow 17 = .ok (.istore_n 2, 1) := by decide +kernel
theorem dX0_shakeRow_18 : decode cX0_shakeRow 18 = .ok (.aload_n 0, 1) := by decide +kernel
theorem dX0_shakeRow_19 : decode cX0_shakeRow 19 = .ok (.iconst 2, 1) := by decide +kernel
theorem dX0_shakeRow_20 : decode cX0_shakeRow 20 = .ok (.aload_n 0, 1) := by decide +kernel
theorem dX0_shakeRow_21 : decode cX0_shakeRow 21 = .ok (.getfield 18, 3) := by decide +kernel
theorem dX0_shakeRow_24 : decode cX0_shakeRow 24 = .ok (.imul, 1) := by decide +kernel
theorem dX0_shakeRow_25 : decode cX0_shakeRow 25 = .ok (.iconst 1, 1) := by decide +kernel
theorem dX0_shakeRow_26 : decode cX0_shakeRow 26 = .ok (.iadd, 1) := by decide +kernel
theorem dX0_shakeRow_27 : decode cX0_shakeRow 27 = .ok (.invokevirtual 71, 3) := by decide +kernel
theorem dX0_shakeRow_30 : decode cX0_shakeRow 30 = .ok (.aload_n 0, 1) := by decide +kernel
theorem dX0_shakeRow_31 : decode cX0_shakeRow 31 = .ok (.getfield 18, 3) := by decide +kernel
theorem dX0_shakeRow_34 : decode cX0_shakeRow 34 = .ok (.isub, 1) := by decide +kernel
theorem dX0_shakeRow_35 : decode cX0_shakeRow 35 = .ok (.istore_n 3, 1) := by decide +kernel
theorem dX0_shakeRow_36 : decode cX0_shakeRow 36 = .ok (.aload_n 0, 1) := by decide +kernel
theorem dX0_shakeRow_37 : decode cX0_shakeRow 37 = .ok (.iload_n 2, 1) := by decide +kernel
theorem dX0_shakeRow_38 : decode cX0_shakeRow 38 = .ok (.iconst 0, 1) := by decide +kernel
theorem dX0_shakeRow_39 : decode cX0_shakeRow 39 = .ok (.sipush 365, 3) := by decide +kernel
theorem dX0_shakeRow_42 : decode cX0_shakeRow 42 = .ok (.iload_n 2, 1) := by decide +kernel
theorem dX0_shakeRow_43 : decode cX0_shakeRow 43 = .ok (.iload_n 3, 1) := by decide +kernel
theorem dX0_shakeRow_44 : decode cX0_shakeRow 44 = .ok (.iadd, 1) := by decide +kernel
theorem dX0_shakeRow_45 : decode cX0_shakeRow 45 = .ok (.invokestatic 75, 3) := by decide +kernel
theorem dX0_shakeRow_48 : decode cX0_shakeRow 48 = .ok (.invokestatic 81, 3) := by decide +kernel
theorem dX0_shakeRow_51 : decode cX0_shakeRow 51 = .ok (.invokevirtual 84, 3) := by decide +kernel
theorem dX0_shakeRow_54 : decode cX0_shakeRow 54 = .ok (.iinc 1 1, 3) := by decide +kernel
theorem dX0_shakeRow_57 : decode cX0_shakeRow 57 = .ok (.goto (-55), 3) := by decide +kernel
theorem dX0_shakeRow_60 : decode cX0_shakeRow 60 = .ok (.return_, 1) := by decide +kernel
set_option maxRecDepth 20000 in
theorem dX0_turnRow_0 : decode cX0_turnRow 0 = .ok (.iconst 0, 1) := by decide +kernel
theorem dX0_turnRow_1 : decode cX0_turnRow 1 = .ok (.istore_n 1, 1) := by decide +kernel
theorem dX0_turnRow_2 : decode cX0_turnRow 2 = .ok (.iload_n 1, 1) := by decide +kernel
theorem dX0_turnRow_3 : decode cX0_turnRow 3 = .ok (.sipush 183, 3) := by decide +kernel
theorem dX0_turnRow_6 : decode cX0_turnRow 6 = .ok (.if_icmp .ge 19, 3) := by decide +kernel
theorem dX0_turnRow_9 : decode cX0_turnRow 9 = .ok (.aload_n 0, 1) := by decide +kernel
theorem dX0_turnRow_10 : decode cX0_turnRow 10 = .ok (.iload_n 1, 1) := by decide +kernel
theorem dX0_turnRow_11 : decode cX0_turnRow 11 = .ok (.sipush 365, 3) := by decide +kernel
theorem dX0_turnRow_14 : decode cX0_turnRow 14 = .ok (.iload_n 1, 1) := by decide +kernel
theorem dX0_turnRow_15 : decode cX0_turnRow 15 = .ok (.isub, 1) := by decide +kernel
theorem dX0_turnRow_16 : decode cX0_turnRow 16 = .ok (.invokevirtual 84, 3) := by decide +kernel
theorem dX0_turnRow_19 : decode cX0_turnRow 19 = .ok (.iinc 1 1, 3) := by decide +kernel
theorem dX0_turnRow_22 : decode cX0_turnRow 22 = .ok (.goto (-20), 3) := by decide +kernel
theorem dX0_turnRow_25 : decode cX0_turnRow 25 = .ok (.return_, 1) := by decide +kernel
set_option maxRecDepth 20000 in
theorem dX0_drawRow_0 : decode cX0_drawRow 0 = .ok (.sipush 366, 3) := by decide +kernel
theorem dX0_drawRow_3 : decode cX0_drawRow 3 = .ok (.istore_n 1, 1) := by decide +kernel
theorem dX0_drawRow_4 : decode cX0_drawRow 4 = .ok (.iload_n 1, 1) := by decide +kernel
theorem dX0_drawRow_5 : decode cX0_drawRow 5 = .ok (.ifCond .le 73, 3) := by decide +kernel
theorem dX0_drawRow_8 : decode cX0_drawRow 8 = .ok (.aload_n 0, 1) := by decide +kernel
theorem dX0_drawRow_9 : decode cX0_drawRow 9 = .ok (.aload_n 0, 1) := by decide +kernel
theorem dX0_drawRow_10 : decode cX0_drawRow 10 = .ok (.getfield 21, 3) := by decide +kernel
theorem dX0_drawRow_13 : decode cX0_drawRow 13 = .ok (.iload_n 1, 1) := by decide +kernel
theorem dX0_drawRow_14 : decode cX0_drawRow 14 = .ok (.invokestatic 75, 3) := by decide +kernel
theorem dX0_drawRow_17 : decode cX0_drawRow 17 = .ok (.invokevirtual 71, 3) := by decide +kernel
theorem dX0_drawRow_20 : decode cX0_drawRow 20 = .ok (.istore_n 2, 1) := by decide +kernel
theorem dX0_drawRow_21 : decode cX0_drawRow 21 = .ok (.iload_n 1, 1) := by decide +kernel
theorem dX0_drawRow_22 : decode cX0_drawRow 22 = .ok (.iconst 1, 1) := by decide +kernel
theorem dX0_drawRow_23 : decode cX0_drawRow 23 = .ok (.isub, 1) := by decide +kernel
theorem dX0_drawRow_24 : decode cX0_drawRow 24 = .ok (.iload_n 2, 1) := by decide +kernel
theorem dX0_drawRow_25 : decode cX0_drawRow 25 = .ok (.isub, 1) := by decide +kernel
theorem dX0_drawRow_26 : decode cX0_drawRow 26 = .ok (.istore_n 3, 1) := by decide +kernel
theorem dX0_drawRow_27 : decode cX0_drawRow 27 = .ok (.aload_n 0, 1) := by decide +kernel
theorem dX0_drawRow_28 : decode cX0_drawRow 28 = .ok (.getfield 35, 3) := by decide +kernel
theorem dX0_drawRow_31 : decode cX0_drawRow 31 = .ok (.iload_n 3, 1) := by decide +kernel
theorem dX0_drawRow_32 : decode cX0_drawRow 32 = .ok (.invokestatic 88, 3) := by decide +kernel
theorem dX0_drawRow_35 : decode cX0_drawRow 35 = .ok (.istore 4, 2) := by decide +kernel
theorem dX0_drawRow_37 : decode cX0_drawRow 37 = .ok (.sipush 367, 3) := by decide +kernel
theorem dX0_drawRow_40 : decode cX0_drawRow 40 = .ok (.iload_n 1, 1) := by decide +kernel
theorem dX0_drawRow_41 : decode cX0_drawRow 41 = .ok (.isub, 1) := by decide +kernel
theorem dX0_drawRow_42 : decode cX0_drawRow 42 = .ok (.istore 5, 2) := by decide +kernel
theorem dX0_drawRow_44 : decode cX0_drawRow 44 = .ok (.aload_n 0, 1) := by decide +kernel
theorem dX0_drawRow_45 : decode cX0_drawRow 45 = .ok (.getfield 28, 3) := by decide +kernel
theorem dX0_drawRow_48 : decode cX0_drawRow 48 = .ok (.iload 4, 2) := by decide +kernel
theorem dX0_drawRow_50 : decode cX0_drawRow 50 = .ok (.iload 5, 2) := by decide +kernel
theorem dX0_drawRow_52 : decode cX0_drawRow 52 = .ok (.invokestatic 67, 3) := by decide +kernel
theorem dX0_drawRow_55 : decode cX0_drawRow 55 = .ok (.aload_n 0, 1) := by decide +kernel
theorem dX0_drawRow_56 : decode cX0_drawRow 56 = .ok (.getfield 32, 3) := by decide +kernel
theorem dX0_drawRow_59 : decode cX0_drawRow 59 = .ok (.iload 5, 2) := by decide +kernel
theorem dX0_drawRow_61 : decode cX0_drawRow 61 = .ok (.iload 4, 2) := by decide +kernel
theorem dX0_drawRow_63 : decode cX0_drawRow 63 = .ok (.invokestatic 67, 3) := by decide +kernel
theorem dX0_drawRow_66 : decode cX0_drawRow 66 = .ok (.aload_n 0, 1) := by decide +kernel
theorem dX0_drawRow_67 : decode cX0_drawRow 67 = .ok (.iload_n 3, 1) := by decide +kernel
theorem dX0_drawRow_68 : decode cX0_drawRow 68 = .ok (.iload_n 2, 1) := by decide +kernel
theorem dX0_drawRow_69 : decode cX0_drawRow 69 = .ok (.invokevirtual 92, 3) := by decide +kernel
theorem dX0_drawRow_72 : decode cX0_drawRow 72 = .ok (.iinc 1 (-1), 3) := by decide +kernel
theorem dX0_drawRow_75 : decode cX0_drawRow 75 = .ok (.goto (-71), 3) := by decide +kernel
theorem dX0_drawRow_78 : decode cX0_drawRow 78 = .ok (.return_, 1) := by decide +kernel
set_option maxRecDepth 20000 in
theorem dX0_swap_0 : decode cX0_swap 0 = .ok (.aload_n 0, 1) := by decide +kernel
theorem dX0_swap_1 : decode cX0_swap 1 = .ok (.getfield 35, 3) := by decide +kernel
theorem dX0_swap_4 : decode cX0_swap 4 = .ok (.iload_n 1, 1) := by decide +kernel
theorem dX0_swap_5 : decode cX0_swap 5 = .ok (.invokestatic 88, 3) := by decide +kernel
theorem dX0_swap_8 : decode cX0_swap 8 = .ok (.istore_n 3, 1) := by decide +kernel
theorem dX0_swap_9 : decode cX0_swap 9 = .ok (.aload_n 0, 1) := by decide +kernel
theorem dX0_swap_10 : decode cX0_swap 10 = .ok (.getfield 35, 3) := by decide +kernel
theorem dX0_swap_13 : decode cX0_swap 13 = .ok (.iload_n 1, 1) := by decide +kernel
theorem dX0_swap_14 : decode cX0_swap 14 = .ok (.aload_n 0, 1) := by decide +kernel
theorem dX0_swap_15 : decode cX0_swap 15 = .ok (.getfield 35, 3) := by decide +kernel
theorem dX0_swap_18 : decode cX0_swap 18 = .ok (.iload_n 2, 1) := by decide +kernel
theorem dX0_swap_19 : decode cX0_swap 19 = .ok (.invokestatic 88, 3) := by decide +kernel
theorem dX0_swap_22 : decode cX0_swap 22 = .ok (.invokestatic 67, 3) := by decide +kernel
theorem dX0_swap_25 : decode cX0_swap 25 = .ok (.aload_n 0, 1) := by decide +kernel
theorem dX0_swap_26 : decode cX0_swap 26 = .ok (.getfield 35, 3) := by decide +kernel
theorem dX0_swap_29 : decode cX0_swap 29 = .ok (.iload_n 2, 1) := by decide +kernel
theorem dX0_swap_30 : decode cX0_swap 30 = .ok (.iload_n 3, 1) := by decide +kernel
theorem dX0_swap_31 : decode cX0_swap 31 = .ok (.invokestatic 67, 3) := by decide +kernel
theorem dX0_swap_34 : decode cX0_swap 34 = .ok (.return_, 1) := by decide +kernel
theorem dX0_closeGap_0 : decode cX0_closeGap 0 = .ok (.iload_n 1, 1) := by decide +kernel
theorem dX0_closeGap_1 : decode cX0_closeGap 1 = .ok (.ifCond .lt 32, 3) := by decide +kernel
theorem dX0_closeGap_4 : decode cX0_closeGap 4 = .ok (.iload_n 2, 1) := by decide +kernel
theorem dX0_closeGap_5 : decode cX0_closeGap 5 = .ok (.ifCond .le 28, 3) := by decide +kernel
theorem dX0_closeGap_8 : decode cX0_closeGap 8 = .ok (.iload_n 2, 1) := by decide +kernel
theorem dX0_closeGap_9 : decode cX0_closeGap 9 = .ok (.sipush 366, 3) := by decide +kernel
theorem dX0_closeGap_12 : decode cX0_closeGap 12 = .ok (.iload_n 1, 1) := by decide +kernel
theorem dX0_closeGap_13 : decode cX0_closeGap 13 = .ok (.isub, 1) := by decide +kernel
theorem dX0_closeGap_14 : decode cX0_closeGap 14 = .ok (.if_icmp .ge 19, 3) := by decide +kernel
theorem dX0_closeGap_17 : decode cX0_closeGap 17 = .ok (.aload_n 0, 1) := by decide +kernel
theorem dX0_closeGap_18 : decode cX0_closeGap 18 = .ok (.getfield 35, 3) := by decide +kernel
theorem dX0_closeGap_21 : decode cX0_closeGap 21 = .ok (.iload_n 1, 1) := by decide +kernel
theorem dX0_closeGap_22 : decode cX0_closeGap 22 = .ok (.iconst 1, 1) := by decide +kernel
theorem dX0_closeGap_23 : decode cX0_closeGap 23 = .ok (.iadd, 1) := by decide +kernel
theorem dX0_closeGap_24 : decode cX0_closeGap 24 = .ok (.aload_n 0, 1) := by decide +kernel
theorem dX0_closeGap_25 : decode cX0_closeGap 25 = .ok (.getfield 35, 3) := by decide +kernel
theorem dX0_closeGap_28 : decode cX0_closeGap 28 = .ok (.iload_n 1, 1) := by decide +kernel
theorem dX0_closeGap_29 : decode cX0_closeGap 29 = .ok (.iload_n 2, 1) := by decide +kernel
theorem dX0_closeGap_30 : decode cX0_closeGap 30 = .ok (.invokestatic 95, 3) := by decide +kernel
theorem dX0_closeGap_33 : decode cX0_closeGap 33 = .ok (.return_, 1) := by decide +kernel
set_option maxRecDepth 20000 in
theorem dX0_numberAt_0 : decode cX0_numberAt 0 = .ok (.aload_n 0, 1) := by decide +kernel
theorem dX0_numberAt_1 : decode cX0_numberAt 1 = .ok (.getfield 28, 3) := by decide +kernel
theorem dX0_numberAt_4 : decode cX0_numberAt 4 = .ok (.iload_n 1, 1) := by decide +kernel
theorem dX0_numberAt_5 : decode cX0_numberAt 5 = .ok (.invokestatic 88, 3) := by decide +kernel
theorem dX0_numberAt_8 : decode cX0_numberAt 8 = .ok (.ireturn, 1) := by decide +kernel
set_option maxRecDepth 20000 in
theorem dX0_dayAt_0 : decode cX0_dayAt 0 = .ok (.aload_n 0, 1) := by decide +kernel
theorem dX0_dayAt_1 : decode cX0_dayAt 1 = .ok (.getfield 32, 3) := by decide +kernel
theorem dX0_dayAt_4 : decode cX0_dayAt 4 = .ok (.iload_n 1, 1) := by decide +kernel
theorem dX0_dayAt_5 : decode cX0_dayAt 5 = .ok (.invokestatic 88, 3) := by decide +kernel
theorem dX0_dayAt_8 : decode cX0_dayAt 8 = .ok (.ireturn, 1) := by decide +kernel
set_option maxRecDepth 20000 in
theorem dX0_monthSum_0 : decode cX0_monthSum 0 = .ok (.iconst 0, 1) := by decide +kernel
theorem dX0_monthSum_1 : decode cX0_monthSum 1 = .ok (.istore_n 2, 1) := by decide +kernel
theorem dX0_monthSum_2 : decode cX0_monthSum 2 = .ok (.getstatic 101, 3) := by decide +kernel
theorem dX0_monthSum_5 : decode cX0_monthSum 5 = .ok (.iload_n 1, 1) := by decide +kernel
theorem dX0_monthSum_6 : decode cX0_monthSum 6 = .ok (.invokestatic 88, 3) := by decide +kernel
theorem dX0_monthSum_9 : decode cX0_monthSum 9 = .ok (.istore_n 3, 1) := by decide +kernel
theorem dX0_monthSum_10 : decode cX0_monthSum 10 = .ok (.iload_n 3, 1) := by decide +kernel
theorem dX0_monthSum_11 : decode cX0_monthSum 11 = .ok (.getstatic 101, 3) := by decide +kernel
theorem dX0_monthSum_14 : decode cX0_monthSum 14 = .ok (.iload_n 1, 1) := by decide +kernel
theorem dX0_monthSum_15 : decode cX0_monthSum 15 = .ok (.iconst 1, 1) := by decide +kernel
end
