section
-- ===== PART A: goes FIRST, ahead of the names: the tables' words, and 'selects' of the private methods out of them =====
/-- a private method of a class that the tables say can be made, by its rows of tables_1 -/
def lw_okq (q : MethodName × Nat) : Prop := (q.1.cls ≠ "java/lang/invoke/MethodHandle" ∧ q.1.cls ≠ "java/lang/invoke/VarHandle") ∧ Cond.instantiable q.1.cls q.2 ∈ tables_1 ∧ Cond.privateMethod q.1 ∈ tables_1 ∧ Cond.instanceMethod q.1 ∈ tables_1
theorem lw_p0 : lw_okq (⟨"SleepCalls$Reader", "nextToken", "()V"⟩, 7) := ⟨⟨by decide +kernel, by decide +kernel⟩, List.mem_of_getElem? (i := 18) (by decide +kernel), List.mem_of_getElem? (i := 168) (by decide +kernel), List.mem_of_getElem? (i := 169) (by decide +kernel)⟩
theorem lw_p1 : lw_okq (⟨"SleepCalls$Reader", "readNumber", "()V"⟩, 7) := ⟨⟨by decide +kernel, by decide +kernel⟩, List.mem_of_getElem? (i := 18) (by decide +kernel), List.mem_of_getElem? (i := 175) (by decide +kernel), List.mem_of_getElem? (i := 176) (by decide +kernel)⟩
theorem lw_p2 : lw_okq (⟨"SleepCalls$Reader", "readItem", "(LSleepCalls$City;I)Z"⟩, 7) := ⟨⟨by decide +kernel, by decide +kernel⟩, List.mem_of_getElem? (i := 18) (by decide +kernel), List.mem_of_getElem? (i := 201) (by decide +kernel), List.mem_of_getElem? (i := 202) (by decide +kernel)⟩
theorem lw_p3 : lw_okq (⟨"SleepCalls$Reader", "mayStand", "(LSleepCalls$City;II)Z"⟩, 7) := ⟨⟨by decide +kernel, by decide +kernel⟩, List.mem_of_getElem? (i := 18) (by decide +kernel), List.mem_of_getElem? (i := 212) (by decide +kernel), List.mem_of_getElem? (i := 213) (by decide +kernel)⟩
theorem lw_p4 : lw_okq (⟨"SleepCalls$Reader", "isWithin", "(II)Z"⟩, 7) := ⟨⟨by decide +kernel, by decide +kernel⟩, List.mem_of_getElem? (i := 18) (by decide +kernel), List.mem_of_getElem? (i := 216) (by decide +kernel), List.mem_of_getElem? (i := 217) (by decide +kernel)⟩
theorem lw_p5 : lw_okq (⟨"SleepCalls$Reader", "mayStandForCitizen", "(I)Z"⟩, 7) := ⟨⟨by decide +kernel, by decide +kernel⟩, List.mem_of_getElem? (i := 18) (by decide +kernel), List.mem_of_getElem? (i := 220) (by decide +kernel), List.mem_of_getElem? (i := 221) (by decide +kernel)⟩
theorem lw_p6 : lw_okq (⟨"SleepCalls$City", "tellCitizen", "([I)V"⟩, 16) := ⟨⟨by decide +kernel, by decide +kernel⟩, List.mem_of_getElem? (i := 50) (by decide +kernel), List.mem_of_getElem? (i := 228) (by decide +kernel), List.mem_of_getElem? (i := 229) (by decide +kernel)⟩
theorem lw_p7 : lw_okq (⟨"SleepCalls$City", "tellNoise", "([I)V"⟩, 16) := ⟨⟨by decide +kernel, by decide +kernel⟩, List.mem_of_getElem? (i := 50) (by decide +kernel), List.mem_of_getElem? (i := 232) (by decide +kernel), List.mem_of_getElem? (i := 233) (by decide +kernel)⟩
theorem lw_p8 : lw_okq (⟨"SleepCalls", "isDistrict", "(I)Z"⟩, 17) := ⟨⟨by decide +kernel, by decide +kernel⟩, List.mem_of_getElem? (i := 10) (by decide +kernel), List.mem_of_getElem? (i := 309) (by decide +kernel), List.mem_of_getElem? (i := 310) (by decide +kernel)⟩
theorem lw_p9 : lw_okq (⟨"SleepCalls", "isCitizen", "(I)Z"⟩, 17) := ⟨⟨by decide +kernel, by decide +kernel⟩, List.mem_of_getElem? (i := 10) (by decide +kernel), List.mem_of_getElem? (i := 317) (by decide +kernel), List.mem_of_getElem? (i := 318) (by decide +kernel)⟩
theorem lw_p10 : lw_okq (⟨"SleepCalls", "sleptMost", "()I"⟩, 17) := ⟨⟨by decide +kernel, by decide +kernel⟩, List.mem_of_getElem? (i := 10) (by decide +kernel), List.mem_of_getElem? (i := 329) (by decide +kernel), List.mem_of_getElem? (i := 330) (by decide +kernel)⟩
theorem lw_p11 : lw_okq (⟨"SleepCalls", "sleptLeast", "()I"⟩, 17) := ⟨⟨by decide +kernel, by decide +kernel⟩, List.mem_of_getElem? (i := 10) (by decide +kernel), List.mem_of_getElem? (i := 333) (by decide +kernel), List.mem_of_getElem? (i := 334) (by decide +kernel)⟩
theorem lw_p12 : lw_okq (⟨"SleepCalls", "remember", "()V"⟩, 17) := ⟨⟨by decide +kernel, by decide +kernel⟩, List.mem_of_getElem? (i := 10) (by decide +kernel), List.mem_of_getElem? (i := 341) (by decide +kernel), List.mem_of_getElem? (i := 342) (by decide +kernel)⟩
theorem lw_p13 : lw_okq (⟨"SleepCalls", "goBy", "(LSleepCalls$Now;I)I"⟩, 17) := ⟨⟨by decide +kernel, by decide +kernel⟩, List.mem_of_getElem? (i := 10) (by decide +kernel), List.mem_of_getElem? (i := 357) (by decide +kernel), List.mem_of_getElem? (i := 358) (by decide +kernel)⟩
theorem lw_p14 : lw_okq (⟨"SleepCalls", "firstLapse", "(II)I"⟩, 17) := ⟨⟨by decide +kernel, by decide +kernel⟩, List.mem_of_getElem? (i := 10) (by decide +kernel), List.mem_of_getElem? (i := 403) (by decide +kernel), List.mem_of_getElem? (i := 404) (by decide +kernel)⟩
theorem lw_p15 : lw_okq (⟨"SleepCalls", "lapses", "(I)Z"⟩, 17) := ⟨⟨by decide +kernel, by decide +kernel⟩, List.mem_of_getElem? (i := 10) (by decide +kernel), List.mem_of_getElem? (i := 407) (by decide +kernel), List.mem_of_getElem? (i := 408) (by decide +kernel)⟩
def lw_privs_1 : List (MethodName × Nat) := [(⟨"SleepCalls$Reader", "nextToken", "()V"⟩, 7), (⟨"SleepCalls$Reader", "readNumber", "()V"⟩, 7), (⟨"SleepCalls$Reader", "readItem", "(LSleepCalls$City;I)Z"⟩, 7), (⟨"SleepCalls$Reader", "mayStand", "(LSleepCalls$City;II)Z"⟩, 7), (⟨"SleepCalls$Reader", "isWithin", "(II)Z"⟩, 7), (⟨"SleepCalls$Reader", "mayStandForCitizen", "(I)Z"⟩, 7), (⟨"SleepCalls$City", "tellCitizen", "([I)V"⟩, 16), (⟨"SleepCalls$City", "tellNoise", "([I)V"⟩, 16), (⟨"SleepCalls", "isDistrict", "(I)Z"⟩, 17), (⟨"SleepCalls", "isCitizen", "(I)Z"⟩, 17), (⟨"SleepCalls", "sleptMost", "()I"⟩, 17), (⟨"SleepCalls", "sleptLeast", "()I"⟩, 17), (⟨"SleepCalls", "remember", "()V"⟩, 17), (⟨"SleepCalls", "goBy", "(LSleepCalls$Now;I)I"⟩, 17), (⟨"SleepCalls", "firstLapse", "(II)I"⟩, 17), (⟨"SleepCalls", "lapses", "(I)Z"⟩, 17)]
theorem lw_r1 : ∀ q ∈ lw_privs_1, lw_okq q := List.forall_mem_cons.mpr ⟨lw_p0, List.forall_mem_cons.mpr ⟨lw_p1, List.forall_mem_cons.mpr ⟨lw_p2, List.forall_mem_cons.mpr ⟨lw_p3, List.forall_mem_cons.mpr ⟨lw_p4, List.forall_mem_cons.mpr ⟨lw_p5, List.forall_mem_cons.mpr ⟨lw_p6, List.forall_mem_cons.mpr ⟨lw_p7, List.forall_mem_cons.mpr ⟨lw_p8, List.forall_mem_cons.mpr ⟨lw_p9, List.forall_mem_cons.mpr ⟨lw_p10, List.forall_mem_cons.mpr ⟨lw_p11, List.forall_mem_cons.mpr ⟨lw_p12, List.forall_mem_cons.mpr ⟨lw_p13, List.forall_mem_cons.mpr ⟨lw_p14, List.forall_mem_cons.mpr ⟨lw_p15, fun _ h => absurd h List.not_mem_nil⟩⟩⟩⟩⟩⟩⟩⟩⟩⟩⟩⟩⟩⟩⟩⟩
theorem lw_p16 : lw_okq (⟨"SleepCalls", "enoughInEach", "(I)Z"⟩, 17) := ⟨⟨by decide +kernel, by decide +kernel⟩, List.mem_of_getElem? (i := 10) (by decide +kernel), List.mem_of_getElem? (i := 417) (by decide +kernel), List.mem_of_getElem? (i := 418) (by decide +kernel)⟩
theorem lw_p17 : lw_okq (⟨"SleepCalls", "hourAhead", "(I)I"⟩, 17) := ⟨⟨by decide +kernel, by decide +kernel⟩, List.mem_of_getElem? (i := 10) (by decide +kernel), List.mem_of_getElem? (i := 421) (by decide +kernel), List.mem_of_getElem? (i := 422) (by decide +kernel)⟩
theorem lw_p18 : lw_okq (⟨"SleepCalls", "callUpFrom", "(II)Z"⟩, 17) := ⟨⟨by decide +kernel, by decide +kernel⟩, List.mem_of_getElem? (i := 10) (by decide +kernel), List.mem_of_getElem? (i := 434) (by decide +kernel), List.mem_of_getElem? (i := 435) (by decide +kernel)⟩
theorem lw_p19 : lw_okq (⟨"SleepCalls", "wakingCost", "(III)I"⟩, 17) := ⟨⟨by decide +kernel, by decide +kernel⟩, List.mem_of_getElem? (i := 10) (by decide +kernel), List.mem_of_getElem? (i := 447) (by decide +kernel), List.mem_of_getElem? (i := 448) (by decide +kernel)⟩
theorem lw_p20 : lw_okq (⟨"SleepCalls", "driveOn", "(III)V"⟩, 17) := ⟨⟨by decide +kernel, by decide +kernel⟩, List.mem_of_getElem? (i := 10) (by decide +kernel), List.mem_of_getElem? (i := 452) (by decide +kernel), List.mem_of_getElem? (i := 453) (by decide +kernel)⟩
theorem lw_p21 : lw_okq (⟨"SleepCalls", "makesCountsSo", "(I)Z"⟩, 17) := ⟨⟨by decide +kernel, by decide +kernel⟩, List.mem_of_getElem? (i := 10) (by decide +kernel), List.mem_of_getElem? (i := 477) (by decide +kernel), List.mem_of_getElem? (i := 478) (by decide +kernel)⟩
theorem lw_p22 : lw_okq (⟨"SleepCalls", "lastCounted", "()I"⟩, 17) := ⟨⟨by decide +kernel, by decide +kernel⟩, List.mem_of_getElem? (i := 10) (by decide +kernel), List.mem_of_getElem? (i := 481) (by decide +kernel), List.mem_of_getElem? (i := 482) (by decide +kernel)⟩
theorem lw_p23 : lw_okq (⟨"SleepCalls", "isAsCounted", "(II)Z"⟩, 17) := ⟨⟨by decide +kernel, by decide +kernel⟩, List.mem_of_getElem? (i := 10) (by decide +kernel), List.mem_of_getElem? (i := 485) (by decide +kernel), List.mem_of_getElem? (i := 486) (by decide +kernel)⟩
theorem lw_p24 : lw_okq (⟨"SleepCalls", "asCitizen", "(I)I"⟩, 17) := ⟨⟨by decide +kernel, by decide +kernel⟩, List.mem_of_getElem? (i := 10) (by decide +kernel), List.mem_of_getElem? (i := 507) (by decide +kernel), List.mem_of_getElem? (i := 508) (by decide +kernel)⟩
theorem lw_p25 : lw_okq (⟨"SleepCalls", "asBaker", "(I)I"⟩, 17) := ⟨⟨by decide +kernel, by decide +kernel⟩, List.mem_of_getElem? (i := 10) (by decide +kernel), List.mem_of_getElem? (i := 511) (by decide +kernel), List.mem_of_getElem? (i := 512) (by decide +kernel)⟩
theorem lw_p26 : lw_okq (⟨"SleepCalls", "asDeputy", "(I)I"⟩, 17) := ⟨⟨by decide +kernel, by decide +kernel⟩, List.mem_of_getElem? (i := 10) (by decide +kernel), List.mem_of_getElem? (i := 516) (by decide +kernel), List.mem_of_getElem? (i := 517) (by decide +kernel)⟩
theorem lw_p27 : lw_okq (⟨"SleepCalls", "asGuard", "(I)I"⟩, 17) := ⟨⟨by decide +kernel, by decide +kernel⟩, List.mem_of_getElem? (i := 10) (by decide +kernel), List.mem_of_getElem? (i := 521) (by decide +kernel), List.mem_of_getElem? (i := 522) (by decide +kernel)⟩
theorem lw_p28 : lw_okq (⟨"SleepCalls", "asTwin", "(I)I"⟩, 17) := ⟨⟨by decide +kernel, by decide +kernel⟩, List.mem_of_getElem? (i := 10) (by decide +kernel), List.mem_of_getElem? (i := 526) (by decide +kernel), List.mem_of_getElem? (i := 527) (by decide +kernel)⟩
theorem lw_p29 : lw_okq (⟨"SleepCalls", "asVeteran", "(I)I"⟩, 17) := ⟨⟨by decide +kernel, by decide +kernel⟩, List.mem_of_getElem? (i := 10) (by decide +kernel), List.mem_of_getElem? (i := 531) (by decide +kernel), List.mem_of_getElem? (i := 532) (by decide +kernel)⟩
theorem lw_p30 : lw_okq (⟨"SleepCallsModel", "reads", "()Z"⟩, 26) := ⟨⟨by decide +kernel, by decide +kernel⟩, List.mem_of_getElem? (i := 552) (by decide +kernel), List.mem_of_getElem? (i := 558) (by decide +kernel), List.mem_of_getElem? (i := 559) (by decide +kernel)⟩
theorem lw_p31 : lw_okq (⟨"SleepCallsModel", "token", "()V"⟩, 26) := ⟨⟨by decide +kernel, by decide +kernel⟩, List.mem_of_getElem? (i := 552) (by decide +kernel), List.mem_of_getElem? (i := 565) (by decide +kernel), List.mem_of_getElem? (i := 566) (by decide +kernel)⟩
def lw_privs_2 : List (MethodName × Nat) := [(⟨"SleepCalls", "enoughInEach", "(I)Z"⟩, 17), (⟨"SleepCalls", "hourAhead", "(I)I"⟩, 17), (⟨"SleepCalls", "callUpFrom", "(II)Z"⟩, 17), (⟨"SleepCalls", "wakingCost", "(III)I"⟩, 17), (⟨"SleepCalls", "driveOn", "(III)V"⟩, 17), (⟨"SleepCalls", "makesCountsSo", "(I)Z"⟩, 17), (⟨"SleepCalls", "lastCounted", "()I"⟩, 17), (⟨"SleepCalls", "isAsCounted", "(II)Z"⟩, 17), (⟨"SleepCalls", "asCitizen", "(I)I"⟩, 17), (⟨"SleepCalls", "asBaker", "(I)I"⟩, 17), (⟨"SleepCalls", "asDeputy", "(I)I"⟩, 17), (⟨"SleepCalls", "asGuard", "(I)I"⟩, 17), (⟨"SleepCalls", "asTwin", "(I)I"⟩, 17), (⟨"SleepCalls", "asVeteran", "(I)I"⟩, 17), (⟨"SleepCallsModel", "reads", "()Z"⟩, 26), (⟨"SleepCallsModel", "token", "()V"⟩, 26)]
theorem lw_r2 : ∀ q ∈ lw_privs_2, lw_okq q := List.forall_mem_cons.mpr ⟨lw_p16, List.forall_mem_cons.mpr ⟨lw_p17, List.forall_mem_cons.mpr ⟨lw_p18, List.forall_mem_cons.mpr ⟨lw_p19, List.forall_mem_cons.mpr ⟨lw_p20, List.forall_mem_cons.mpr ⟨lw_p21, List.forall_mem_cons.mpr ⟨lw_p22, List.forall_mem_cons.mpr ⟨lw_p23, List.forall_mem_cons.mpr ⟨lw_p24, List.forall_mem_cons.mpr ⟨lw_p25, List.forall_mem_cons.mpr ⟨lw_p26, List.forall_mem_cons.mpr ⟨lw_p27, List.forall_mem_cons.mpr ⟨lw_p28, List.forall_mem_cons.mpr ⟨lw_p29, List.forall_mem_cons.mpr ⟨lw_p30, List.forall_mem_cons.mpr ⟨lw_p31, fun _ h => absurd h List.not_mem_nil⟩⟩⟩⟩⟩⟩⟩⟩⟩⟩⟩⟩⟩⟩⟩⟩
theorem lw_p32 : lw_okq (⟨"SleepCallsModel", "letterAt", "(I)I"⟩, 26) := ⟨⟨by decide +kernel, by decide +kernel⟩, List.mem_of_getElem? (i := 552) (by decide +kernel), List.mem_of_getElem? (i := 569) (by decide +kernel), List.mem_of_getElem? (i := 570) (by decide +kernel)⟩
theorem lw_p33 : lw_okq (⟨"SleepCallsModel", "readsItem", "()Z"⟩, 26) := ⟨⟨by decide +kernel, by decide +kernel⟩, List.mem_of_getElem? (i := 552) (by decide +kernel), List.mem_of_getElem? (i := 579) (by decide +kernel), List.mem_of_getElem? (i := 580) (by decide +kernel)⟩
theorem lw_p34 : lw_okq (⟨"SleepCallsModel", "readsDistricts", "()Z"⟩, 26) := ⟨⟨by decide +kernel, by decide +kernel⟩, List.mem_of_getElem? (i := 552) (by decide +kernel), List.mem_of_getElem? (i := 583) (by decide +kernel), List.mem_of_getElem? (i := 584) (by decide +kernel)⟩
theorem lw_p35 : lw_okq (⟨"SleepCallsModel", "number", "(III)Z"⟩, 26) := ⟨⟨by decide +kernel, by decide +kernel⟩, List.mem_of_getElem? (i := 552) (by decide +kernel), List.mem_of_getElem? (i := 587) (by decide +kernel), List.mem_of_getElem? (i := 588) (by decide +kernel)⟩
theorem lw_p36 : lw_okq (⟨"SleepCallsModel", "readsQuota", "()Z"⟩, 26) := ⟨⟨by decide +kernel, by decide +kernel⟩, List.mem_of_getElem? (i := 552) (by decide +kernel), List.mem_of_getElem? (i := 591) (by decide +kernel), List.mem_of_getElem? (i := 592) (by decide +kernel)⟩
theorem lw_p37 : lw_okq (⟨"SleepCallsModel", "readsRoad", "()Z"⟩, 26) := ⟨⟨by decide +kernel, by decide +kernel⟩, List.mem_of_getElem? (i := 552) (by decide +kernel), List.mem_of_getElem? (i := 595) (by decide +kernel), List.mem_of_getElem? (i := 596) (by decide +kernel)⟩
theorem lw_p38 : lw_okq (⟨"SleepCallsModel", "readsBeds", "()Z"⟩, 26) := ⟨⟨by decide +kernel, by decide +kernel⟩, List.mem_of_getElem? (i := 552) (by decide +kernel), List.mem_of_getElem? (i := 599) (by decide +kernel), List.mem_of_getElem? (i := 600) (by decide +kernel)⟩
theorem lw_p39 : lw_okq (⟨"SleepCallsModel", "readsCitizen", "()Z"⟩, 26) := ⟨⟨by decide +kernel, by decide +kernel⟩, List.mem_of_getElem? (i := 552) (by decide +kernel), List.mem_of_getElem? (i := 603) (by decide +kernel), List.mem_of_getElem? (i := 604) (by decide +kernel)⟩
theorem lw_p40 : lw_okq (⟨"SleepCallsModel", "readsNoise", "()Z"⟩, 26) := ⟨⟨by decide +kernel, by decide +kernel⟩, List.mem_of_getElem? (i := 552) (by decide +kernel), List.mem_of_getElem? (i := 607) (by decide +kernel), List.mem_of_getElem? (i := 608) (by decide +kernel)⟩
theorem lw_p41 : lw_okq (⟨"SleepCallsModel", "tells", "()V"⟩, 26) := ⟨⟨by decide +kernel, by decide +kernel⟩, List.mem_of_getElem? (i := 552) (by decide +kernel), List.mem_of_getElem? (i := 611) (by decide +kernel), List.mem_of_getElem? (i := 612) (by decide +kernel)⟩
theorem lw_p42 : lw_okq (⟨"SleepCallsModel", "begins", "()V"⟩, 26) := ⟨⟨by decide +kernel, by decide +kernel⟩, List.mem_of_getElem? (i := 552) (by decide +kernel), List.mem_of_getElem? (i := 615) (by decide +kernel), List.mem_of_getElem? (i := 616) (by decide +kernel)⟩
theorem lw_p43 : lw_okq (⟨"SleepCallsModel", "isDistrict", "(I)Z"⟩, 26) := ⟨⟨by decide +kernel, by decide +kernel⟩, List.mem_of_getElem? (i := 552) (by decide +kernel), List.mem_of_getElem? (i := 714) (by decide +kernel), List.mem_of_getElem? (i := 715) (by decide +kernel)⟩
theorem lw_p44 : lw_okq (⟨"SleepCallsModel", "isCitizen", "(I)Z"⟩, 26) := ⟨⟨by decide +kernel, by decide +kernel⟩, List.mem_of_getElem? (i := 552) (by decide +kernel), List.mem_of_getElem? (i := 722) (by decide +kernel), List.mem_of_getElem? (i := 723) (by decide +kernel)⟩
theorem lw_p45 : lw_okq (⟨"SleepCallsModel", "most", "(I)I"⟩, 26) := ⟨⟨by decide +kernel, by decide +kernel⟩, List.mem_of_getElem? (i := 552) (by decide +kernel), List.mem_of_getElem? (i := 734) (by decide +kernel), List.mem_of_getElem? (i := 735) (by decide +kernel)⟩
theorem lw_p46 : lw_okq (⟨"SleepCallsModel", "keeps", "()V"⟩, 26) := ⟨⟨by decide +kernel, by decide +kernel⟩, List.mem_of_getElem? (i := 552) (by decide +kernel), List.mem_of_getElem? (i := 742) (by decide +kernel), List.mem_of_getElem? (i := 743) (by decide +kernel)⟩
theorem lw_p47 : lw_okq (⟨"SleepCallsModel", "calledNow", "()I"⟩, 26) := ⟨⟨by decide +kernel, by decide +kernel⟩, List.mem_of_getElem? (i := 552) (by decide +kernel), List.mem_of_getElem? (i := 750) (by decide +kernel), List.mem_of_getElem? (i := 751) (by decide +kernel)⟩
def lw_privs_3 : List (MethodName × Nat) := [(⟨"SleepCallsModel", "letterAt", "(I)I"⟩, 26), (⟨"SleepCallsModel", "readsItem", "()Z"⟩, 26), (⟨"SleepCallsModel", "readsDistricts", "()Z"⟩, 26), (⟨"SleepCallsModel", "number", "(III)Z"⟩, 26), (⟨"SleepCallsModel", "readsQuota", "()Z"⟩, 26), (⟨"SleepCallsModel", "readsRoad", "()Z"⟩, 26), (⟨"SleepCallsModel", "readsBeds", "()Z"⟩, 26), (⟨"SleepCallsModel", "readsCitizen", "()Z"⟩, 26), (⟨"SleepCallsModel", "readsNoise", "()Z"⟩, 26), (⟨"SleepCallsModel", "tells", "()V"⟩, 26), (⟨"SleepCallsModel", "begins", "()V"⟩, 26), (⟨"SleepCallsModel", "isDistrict", "(I)Z"⟩, 26), (⟨"SleepCallsModel", "isCitizen", "(I)Z"⟩, 26), (⟨"SleepCallsModel", "most", "(I)I"⟩, 26), (⟨"SleepCallsModel", "keeps", "()V"⟩, 26), (⟨"SleepCallsModel", "calledNow", "()I"⟩, 26)]
theorem lw_r3 : ∀ q ∈ lw_privs_3, lw_okq q := List.forall_mem_cons.mpr ⟨lw_p32, List.forall_mem_cons.mpr ⟨lw_p33, List.forall_mem_cons.mpr ⟨lw_p34, List.forall_mem_cons.mpr ⟨lw_p35, List.forall_mem_cons.mpr ⟨lw_p36, List.forall_mem_cons.mpr ⟨lw_p37, List.forall_mem_cons.mpr ⟨lw_p38, List.forall_mem_cons.mpr ⟨lw_p39, List.forall_mem_cons.mpr ⟨lw_p40, List.forall_mem_cons.mpr ⟨lw_p41, List.forall_mem_cons.mpr ⟨lw_p42, List.forall_mem_cons.mpr ⟨lw_p43, List.forall_mem_cons.mpr ⟨lw_p44, List.forall_mem_cons.mpr ⟨lw_p45, List.forall_mem_cons.mpr ⟨lw_p46, List.forall_mem_cons.mpr ⟨lw_p47, fun _ h => absurd h List.not_mem_nil⟩⟩⟩⟩⟩⟩⟩⟩⟩⟩⟩⟩⟩⟩⟩⟩
theorem lw_p48 : lw_okq (⟨"SleepCallsModel", "asleep", "(I)I"⟩, 26) := ⟨⟨by decide +kernel, by decide +kernel⟩, List.mem_of_getElem? (i := 552) (by decide +kernel), List.mem_of_getElem? (i := 754) (by decide +kernel), List.mem_of_getElem? (i := 755) (by decide +kernel)⟩
theorem lw_p49 : lw_okq (⟨"SleepCallsModel", "could", "(IZ)Z"⟩, 26) := ⟨⟨by decide +kernel, by decide +kernel⟩, List.mem_of_getElem? (i := 552) (by decide +kernel), List.mem_of_getElem? (i := 758) (by decide +kernel), List.mem_of_getElem? (i := 759) (by decide +kernel)⟩
theorem lw_p50 : lw_okq (⟨"SleepCallsModel", "loudest", "(I)I"⟩, 26) := ⟨⟨by decide +kernel, by decide +kernel⟩, List.mem_of_getElem? (i := 552) (by decide +kernel), List.mem_of_getElem? (i := 762) (by decide +kernel), List.mem_of_getElem? (i := 763) (by decide +kernel)⟩
theorem lw_p51 : lw_okq (⟨"SleepCallsModel", "goes", "(I)Z"⟩, 26) := ⟨⟨by decide +kernel, by decide +kernel⟩, List.mem_of_getElem? (i := 552) (by decide +kernel), List.mem_of_getElem? (i := 766) (by decide +kernel), List.mem_of_getElem? (i := 767) (by decide +kernel)⟩
theorem lw_p52 : lw_okq (⟨"SleepCallsModel", "holds", "()V"⟩, 26) := ⟨⟨by decide +kernel, by decide +kernel⟩, List.mem_of_getElem? (i := 552) (by decide +kernel), List.mem_of_getElem? (i := 781) (by decide +kernel), List.mem_of_getElem? (i := 782) (by decide +kernel)⟩
theorem lw_p53 : lw_okq (⟨"SleepCallsModel", "lets", "()V"⟩, 26) := ⟨⟨by decide +kernel, by decide +kernel⟩, List.mem_of_getElem? (i := 552) (by decide +kernel), List.mem_of_getElem? (i := 785) (by decide +kernel), List.mem_of_getElem? (i := 786) (by decide +kernel)⟩
theorem lw_p54 : lw_okq (⟨"SleepCallsModel", "lapseIn", "(I)I"⟩, 26) := ⟨⟨by decide +kernel, by decide +kernel⟩, List.mem_of_getElem? (i := 552) (by decide +kernel), List.mem_of_getElem? (i := 793) (by decide +kernel), List.mem_of_getElem? (i := 794) (by decide +kernel)⟩
theorem lw_p55 : lw_okq (⟨"SleepCallsModel", "seeks", "(I)V"⟩, 26) := ⟨⟨by decide +kernel, by decide +kernel⟩, List.mem_of_getElem? (i := 552) (by decide +kernel), List.mem_of_getElem? (i := 801) (by decide +kernel), List.mem_of_getElem? (i := 802) (by decide +kernel)⟩
theorem lw_p56 : lw_okq (⟨"SleepCallsModel", "puts", "(I)V"⟩, 26) := ⟨⟨by decide +kernel, by decide +kernel⟩, List.mem_of_getElem? (i := 552) (by decide +kernel), List.mem_of_getElem? (i := 805) (by decide +kernel), List.mem_of_getElem? (i := 806) (by decide +kernel)⟩
theorem lw_p57 : lw_okq (⟨"SleepCallsModel", "takes", "(I)V"⟩, 26) := ⟨⟨by decide +kernel, by decide +kernel⟩, List.mem_of_getElem? (i := 552) (by decide +kernel), List.mem_of_getElem? (i := 809) (by decide +kernel), List.mem_of_getElem? (i := 810) (by decide +kernel)⟩
theorem lw_p58 : lw_okq (⟨"SleepCallsModel", "far", "(III)I"⟩, 26) := ⟨⟨by decide +kernel, by decide +kernel⟩, List.mem_of_getElem? (i := 552) (by decide +kernel), List.mem_of_getElem? (i := 821) (by decide +kernel), List.mem_of_getElem? (i := 822) (by decide +kernel)⟩
theorem lw_p59 : lw_okq (⟨"SleepCallsModel", "isSo", "()Z"⟩, 26) := ⟨⟨by decide +kernel, by decide +kernel⟩, List.mem_of_getElem? (i := 552) (by decide +kernel), List.mem_of_getElem? (i := 845) (by decide +kernel), List.mem_of_getElem? (i := 846) (by decide +kernel)⟩
def lw_privs_4 : List (MethodName × Nat) := [(⟨"SleepCallsModel", "asleep", "(I)I"⟩, 26), (⟨"SleepCallsModel", "could", "(IZ)Z"⟩, 26), (⟨"SleepCallsModel", "loudest", "(I)I"⟩, 26), (⟨"SleepCallsModel", "goes", "(I)Z"⟩, 26), (⟨"SleepCallsModel", "holds", "()V"⟩, 26), (⟨"SleepCallsModel", "lets", "()V"⟩, 26), (⟨"SleepCallsModel", "lapseIn", "(I)I"⟩, 26), (⟨"SleepCallsModel", "seeks", "(I)V"⟩, 26), (⟨"SleepCallsModel", "puts", "(I)V"⟩, 26), (⟨"SleepCallsModel", "takes", "(I)V"⟩, 26), (⟨"SleepCallsModel", "far", "(III)I"⟩, 26), (⟨"SleepCallsModel", "isSo", "()Z"⟩, 26)]
theorem lw_r4 : ∀ q ∈ lw_privs_4, lw_okq q := List.forall_mem_cons.mpr ⟨lw_p48, List.forall_mem_cons.mpr ⟨lw_p49, List.forall_mem_cons.mpr ⟨lw_p50, List.forall_mem_cons.mpr ⟨lw_p51, List.forall_mem_cons.mpr ⟨lw_p52, List.forall_mem_cons.mpr ⟨lw_p53, List.forall_mem_cons.mpr ⟨lw_p54, List.forall_mem_cons.mpr ⟨lw_p55, List.forall_mem_cons.mpr ⟨lw_p56, List.forall_mem_cons.mpr ⟨lw_p57, List.forall_mem_cons.mpr ⟨lw_p58, List.forall_mem_cons.mpr ⟨lw_p59, fun _ h => absurd h List.not_mem_nil⟩⟩⟩⟩⟩⟩⟩⟩⟩⟩⟩⟩
def lw_privs : List (MethodName × Nat) := lw_privs_1 ++ (lw_privs_2 ++ (lw_privs_3 ++ (lw_privs_4)))
def lw_tbl : List Cond := k2_sels lw_privs ++ tables_1
theorem lw_privs_ok : ∀ q ∈ lw_privs, lw_okq q := by
  show ∀ q ∈ lw_privs_1 ++ (lw_privs_2 ++ (lw_privs_3 ++ (lw_privs_4))), lw_okq q
  exact List.forall_mem_append.mpr ⟨lw_r1, List.forall_mem_append.mpr ⟨lw_r2, List.forall_mem_append.mpr ⟨lw_r3, lw_r4⟩⟩⟩
def RX0 : String := "SleepCalls$City"
def TX0 : u_T := fun k => match k with
  | 0 => ("SleepCalls$City", "districts", "I", false)
  | 1 => ("SleepCalls$City", "quota", "I", false)
  | 2 => ("SleepCalls$City", "quotaTold", "Z", false)
  | 3 => ("SleepCalls$City", "beds", "[I", true)
  | 4 => ("SleepCalls$City", "joined", "[I", true)
  | 5 => ("SleepCalls$City", "citizens", "I", false)
  | 6 => ("SleepCalls$City", "home", "[I", true)
  | 7 => ("SleepCalls$City", "tiredAtFirst", "[I", true)
  | 8 => ("SleepCalls$City", "work", "[I", true)
  | 9 => ("SleepCalls$City", "deep", "[I", true)
  | 10 => ("SleepCalls$City", "noises", "I", false)
  | 11 => ("SleepCalls$City", "noiseDistrict", "[I", true)
  | 12 => ("SleepCalls$City", "noiseHour", "[I", true)
  | 13 => ("SleepCalls$City", "noiseLoud", "[I", true)
  | 14 => ("SleepCalls$City", "livingIn", "[I", true)
  | _ => ("SleepCalls$City", "restfulIn", "[I", true)
def tyX0 : Nat → FieldType := fun k => match k with
  | 0 => .int
  | 1 => .int
  | 2 => .boolean
  | 3 => .array .int
  | 4 => .array .int
  | 5 => .int
  | 6 => .array .int
  | 7 => .array .int
  | 8 => .array .int
  | 9 => .array .int
  | 10 => .int
  | 11 => .array .int
  | 12 => .array .int
  | 13 => .array .int
  | 14 => .array .int
  | _ => .array .int
theorem nmX0 : ∀ a, a < 16 → ∀ b, b < 16 → a ≠ b → (TX0 a).2.1 ≠ (TX0 b).2.1 := by decide +kernel
theorem tyX0_ok : ∀ k, k < 16 → parseFieldDescriptor (TX0 k).2.2.1 = some (tyX0 k) := by decide +kernel
abbrev cX0_init : ByteArray := prog_2_method_1_code
def yX0_init : MethodName := ⟨RX0, "<init>", "()V"⟩
abbrev cX0_restart : ByteArray := prog_2_method_2_code
def yX0_restart : MethodName := ⟨RX0, "restart", "()V"⟩
abbrev cX0_mayComeNext : ByteArray := prog_2_method_3_code
def yX0_mayComeNext : MethodName := ⟨RX0, "mayComeNext", "(II)Z"⟩
abbrev cX0_tell : ByteArray := prog_2_method_4_code
def yX0_tell : MethodName := ⟨RX0, "tell", "(I[I)V"⟩
abbrev cX0_tellCitizen : ByteArray := prog_2_method_5_code
def yX0_tellCitizen : MethodName := ⟨RX0, "tellCitizen", "([I)V"⟩
abbrev cX0_tellNoise : ByteArray := prog_2_method_6_code
def yX0_tellNoise : MethodName := ⟨RX0, "tellNoise", "([I)V"⟩
abbrev cX0_settle : ByteArray := prog_2_method_7_code
def yX0_settle : MethodName := ⟨RX0, "settle", "()V"⟩
abbrev cX0_tiredOf : ByteArray := prog_2_method_8_code
def yX0_tiredOf : MethodName := ⟨RX0, "tiredOf", "([I)I"⟩
abbrev cX0_bedded : ByteArray := prog_2_method_9_code
def yX0_bedded : MethodName := ⟨RX0, "bedded", "(I)I"⟩
abbrev cX0_couldLieDown : ByteArray := prog_2_method_10_code
def yX0_couldLieDown : MethodName := ⟨RX0, "couldLieDown", "(LSleepCalls$Now;)I"⟩
abbrev cX0_lyingDown : ByteArray := prog_2_method_11_code
def yX0_lyingDown : MethodName := ⟨RX0, "lyingDown", "(LSleepCalls$Now;I)I"⟩
abbrev cX0_asleep : ByteArray := prog_2_method_12_code
def yX0_asleep : MethodName := ⟨RX0, "asleep", "(LSleepCalls$Now;I)I"⟩
abbrev cX0_wokenBy : ByteArray := prog_2_method_13_code
def yX0_wokenBy : MethodName := ⟨RX0, "wokenBy", "(II)I"⟩
abbrev cX0_wokenByAll : ByteArray := prog_2_method_14_code
def yX0_wokenByAll : MethodName := ⟨RX0, "wokenByAll", "(I)I"⟩
abbrev cX0_noisesOf : ByteArray := prog_2_method_15_code
def yX0_noisesOf : MethodName := ⟨RX0, "noisesOf", "(I)I"⟩
def RX1 : String := "SleepCalls$Now"
def TX1 : u_T := fun k => match k with
  | 0 => ("SleepCalls$Now", "day", "I", false)
  | 1 => ("SleepCalls$Now", "hour", "I", false)
  | 2 => ("SleepCalls$Now", "lapses", "I", false)
  | 3 => ("SleepCalls$Now", "tired", "[I", true)
  | 4 => ("SleepCalls$Now", "called", "[I", true)
  | _ => ("SleepCalls$Now", "slept", "[I", true)
def tyX1 : Nat → FieldType := fun k => match k with
  | 0 => .int
  | 1 => .int
  | 2 => .int
  | 3 => .array .int
  | 4 => .array .int
  | _ => .array .int
theorem nmX1 : ∀ a, a < 6 → ∀ b, b < 6 → a ≠ b → (TX1 a).2.1 ≠ (TX1 b).2.1 := by decide +kernel
theorem tyX1_ok : ∀ k, k < 6 → parseFieldDescriptor (TX1 k).2.2.1 = some (tyX1 k) := by decide +kernel
abbrev cX1_init : ByteArray := prog_3_method_1_code
def yX1_init : MethodName := ⟨RX1, "<init>", "()V"⟩
abbrev cX1_begin : ByteArray := prog_3_method_2_code
def yX1_begin : MethodName := ⟨RX1, "begin", "(LSleepCalls$City;)V"⟩
abbrev cX1_become : ByteArray := prog_3_method_3_code
def yX1_become : MethodName := ⟨RX1, "become", "(LSleepCalls$Now;)V"⟩
abbrev cX1_pass : ByteArray := prog_3_method_4_code
def yX1_pass : MethodName := ⟨RX1, "pass", "(LSleepCalls$City;I)V"⟩
def RX2 : String := "SleepCalls$Reader"
def TX2 : u_T := fun k => match k with
  | 0 => ("SleepCalls$Reader", "letters", "[C", true)
  | 1 => ("SleepCalls$Reader", "length", "I", false)
  | 2 => ("SleepCalls$Reader", "place", "I", false)
  | 3 => ("SleepCalls$Reader", "token", "I", false)
  | 4 => ("SleepCalls$Reader", "tokenPlace", "I", false)
  | 5 => ("SleepCalls$Reader", "value", "I", false)
  | _ => ("SleepCalls$Reader", "numbers", "[I", true)
def tyX2 : Nat → FieldType := fun k => match k with
  | 0 => .array .char
  | 1 => .int
  | 2 => .int
  | 3 => .int
  | 4 => .int
  | 5 => .int
  | _ => .array .int
theorem nmX2 : ∀ a, a < 7 → ∀ b, b < 7 → a ≠ b → (TX2 a).2.1 ≠ (TX2 b).2.1 := by decide +kernel
theorem tyX2_ok : ∀ k, k < 7 → parseFieldDescriptor (TX2 k).2.2.1 = some (tyX2 k) := by decide +kernel
abbrev cX2_init : ByteArray := prog_4_method_1_code
def yX2_init : MethodName := ⟨RX2, "<init>", "()V"⟩
abbrev cX2_readInto : ByteArray := prog_4_method_2_code
def yX2_readInto : MethodName := ⟨RX2, "readInto", "(LSleepCalls$City;)I"⟩
abbrev cX2_readItem : ByteArray := prog_4_method_3_code
def yX2_readItem : MethodName := ⟨RX2, "readItem", "(LSleepCalls$City;I)Z"⟩
abbrev cX2_howManyNumbers : ByteArray := prog_4_method_4_code
def yX2_howManyNumbers : MethodName := ⟨RX2, "howManyNumbers", "(I)I"⟩
abbrev cX2_mayStand : ByteArray := prog_4_method_5_code
def yX2_mayStand : MethodName := ⟨RX2, "mayStand", "(LSleepCalls$City;II)Z"⟩
abbrev cX2_mayStandForCitizen : ByteArray := prog_4_method_6_code
def yX2_mayStandForCitizen : MethodName := ⟨RX2, "mayStandForCitizen", "(I)Z"⟩
abbrev cX2_isWithin : ByteArray := prog_4_method_7_code
def yX2_isWithin : MethodName := ⟨RX2, "isWithin", "(II)Z"⟩
abbrev cX2_nextToken : ByteArray := prog_4_method_8_code
def yX2_nextToken : MethodName := ⟨RX2, "nextToken", "()V"⟩
abbrev cX2_readNumber : ByteArray := prog_4_method_9_code
def yX2_readNumber : MethodName := ⟨RX2, "readNumber", "()V"⟩
abbrev cX2_isDigit : ByteArray := prog_4_method_10_code
def yX2_isDigit : MethodName := ⟨RX2, "isDigit", "(C)Z"⟩
def RX3 : String := "SleepCalls"
def TX3 : u_T := fun k => match k with
  | 0 => ("SleepCalls", "text", "LSleepCalls$Reader;", true)
  | 1 => ("SleepCalls", "told", "LSleepCalls$City;", false)
  | 2 => ("SleepCalls", "spare", "LSleepCalls$City;", false)
  | 3 => ("SleepCalls", "present", "LSleepCalls$Now;", true)
  | 4 => ("SleepCalls", "trial", "LSleepCalls$Now;", true)
  | 5 => ("SleepCalls", "past", "[LSleepCalls$Now;", true)
  | 6 => ("SleepCalls", "latest", "I", false)
  | 7 => ("SleepCalls", "undoable", "I", false)
  | 8 => ("SleepCalls", "images", "[LSleepCalls$Now;", true)
  | 9 => ("SleepCalls", "kept", "[Z", true)
  | 10 => ("SleepCalls", "countedHour", "[I", true)
  | 11 => ("SleepCalls", "countedMany", "[I", true)
  | 12 => ("SleepCalls", "counts", "I", false)
  | 13 => ("SleepCalls", "calledUp", "[I", true)
  | 14 => ("SleepCalls", "tiredIn", "[[I", true)
  | 15 => ("SleepCalls", "wayCost", "[I", true)
  | _ => ("SleepCalls", "trace", "J", false)
def tyX3 : Nat → FieldType := fun k => match k with
  | 0 => .object "SleepCalls$Reader"
  | 1 => .object "SleepCalls$City"
  | 2 => .object "SleepCalls$City"
  | 3 => .object "SleepCalls$Now"
  | 4 => .object "SleepCalls$Now"
  | 5 => .array (.object "SleepCalls$Now")
  | 6 => .int
  | 7 => .int
  | 8 => .array (.object "SleepCalls$Now")
  | 9 => .array .boolean
  | 10 => .array .int
  | 11 => .array .int
  | 12 => .int
  | 13 => .array .int
  | 14 => .array (.array .int)
  | 15 => .array .int
  | _ => .long
theorem nmX3 : ∀ a, a < 17 → ∀ b, b < 17 → a ≠ b → (TX3 a).2.1 ≠ (TX3 b).2.1 := by decide +kernel
theorem tyX3_ok : ∀ k, k < 17 → parseFieldDescriptor (TX3 k).2.2.1 = some (tyX3 k) := by decide +kernel
abbrev cX3_init : ByteArray := prog_1_method_1_code
def yX3_init : MethodName := ⟨RX3, "<init>", "()V"⟩
abbrev cX3_type : ByteArray := prog_1_method_2_code
def yX3_type : MethodName := ⟨RX3, "type", "(I)I"⟩
abbrev cX3_clear : ByteArray := prog_1_method_3_code
def yX3_clear : MethodName := ⟨RX3, "clear", "()I"⟩
abbrev cX3_city : ByteArray := prog_1_method_4_code
def yX3_city : MethodName := ⟨RX3, "city", "()I"⟩
abbrev cX3_district : ByteArray := prog_1_method_5_code
def yX3_district : MethodName := ⟨RX3, "district", "(II)I"⟩
abbrev cX3_citizen : ByteArray := prog_1_method_6_code
def yX3_citizen : MethodName := ⟨RX3, "citizen", "(II)I"⟩
abbrev cX3_noise : ByteArray := prog_1_method_7_code
def yX3_noise : MethodName := ⟨RX3, "noise", "(II)I"⟩
abbrev cX3_now : ByteArray := prog_1_method_8_code
def yX3_now : MethodName := ⟨RX3, "now", "(I)I"⟩
abbrev cX3_sleptMost : ByteArray := prog_1_method_9_code
def yX3_sleptMost : MethodName := ⟨RX3, "sleptMost", "()I"⟩
abbrev cX3_sleptLeast : ByteArray := prog_1_method_10_code
def yX3_sleptLeast : MethodName := ⟨RX3, "sleptLeast", "()I"⟩
abbrev cX3_isDistrict : ByteArray := prog_1_method_11_code
def yX3_isDistrict : MethodName := ⟨RX3, "isDistrict", "(I)Z"⟩
abbrev cX3_isCitizen : ByteArray := prog_1_method_12_code
def yX3_isCitizen : MethodName := ⟨RX3, "isCitizen", "(I)Z"⟩
abbrev cX3_calls : ByteArray := prog_1_method_13_code
def yX3_calls : MethodName := ⟨RX3, "calls", "(II)I"⟩
abbrev cX3_hour : ByteArray := prog_1_method_14_code
def yX3_hour : MethodName := ⟨RX3, "hour", "()I"⟩
abbrev cX3_undo : ByteArray := prog_1_method_15_code
def yX3_undo : MethodName := ⟨RX3, "undo", "()I"⟩
abbrev cX3_remember : ByteArray := prog_1_method_16_code
def yX3_remember : MethodName := ⟨RX3, "remember", "()V"⟩
abbrev cX3_goBy : ByteArray := prog_1_method_17_code
def yX3_goBy : MethodName := ⟨RX3, "goBy", "(LSleepCalls$Now;I)I"⟩
abbrev cX3_lapses : ByteArray := prog_1_method_18_code
def yX3_lapses : MethodName := ⟨RX3, "lapses", "(I)Z"⟩
abbrev cX3_asleepIn : ByteArray := prog_1_method_19_code
def yX3_asleepIn : MethodName := ⟨RX3, "asleepIn", "(I)I"⟩
abbrev cX3_lapse : ByteArray := prog_1_method_20_code
def yX3_lapse : MethodName := ⟨RX3, "lapse", "()I"⟩
abbrev cX3_firstLapse : ByteArray := prog_1_method_21_code
def yX3_firstLapse : MethodName := ⟨RX3, "firstLapse", "(II)I"⟩
abbrev cX3_callUp : ByteArray := prog_1_method_22_code
def yX3_callUp : MethodName := ⟨RX3, "callUp", "(II)I"⟩
abbrev cX3_enoughInEach : ByteArray := prog_1_method_23_code
def yX3_enoughInEach : MethodName := ⟨RX3, "enoughInEach", "(I)Z"⟩
abbrev cX3_callUpFrom : ByteArray := prog_1_method_24_code
def yX3_callUpFrom : MethodName := ⟨RX3, "callUpFrom", "(II)Z"⟩
abbrev cX3_hourAhead : ByteArray := prog_1_method_25_code
def yX3_hourAhead : MethodName := ⟨RX3, "hourAhead", "(I)I"⟩
abbrev cX3_tire : ByteArray := prog_1_method_26_code
def yX3_tire : MethodName := ⟨RX3, "tire", "([II[I)V"⟩
abbrev cX3_has : ByteArray := prog_1_method_27_code
def yX3_has : MethodName := ⟨RX3, "has", "(II)Z"⟩
abbrev cX3_bears : ByteArray := prog_1_method_28_code
def yX3_bears : MethodName := ⟨RX3, "bears", "()I"⟩
abbrev cX3_cart : ByteArray := prog_1_method_29_code
def yX3_cart : MethodName := ⟨RX3, "cart", "(IIII)I"⟩
abbrev cX3_wakingCost : ByteArray := prog_1_method_30_code
def yX3_wakingCost : MethodName := ⟨RX3, "wakingCost", "(III)I"⟩
abbrev cX3_driveOn : ByteArray := prog_1_method_31_code
def yX3_driveOn : MethodName := ⟨RX3, "driveOn", "(III)V"⟩
abbrev cX3_drum : ByteArray := prog_1_method_32_code
def yX3_drum : MethodName := ⟨RX3, "drum", "(I)I"⟩
abbrev cX3_wants : ByteArray := prog_1_method_33_code
def yX3_wants : MethodName := ⟨RX3, "wants", "(I)I"⟩
abbrev cX3_counted : ByteArray := prog_1_method_34_code
def yX3_counted : MethodName := ⟨RX3, "counted", "(II)I"⟩
abbrev cX3_forget : ByteArray := prog_1_method_35_code
def yX3_forget : MethodName := ⟨RX3, "forget", "()I"⟩
abbrev cX3_sham : ByteArray := prog_1_method_36_code
def yX3_sham : MethodName := ⟨RX3, "sham", "()I"⟩
abbrev cX3_makesCountsSo : ByteArray := prog_1_method_37_code
def yX3_makesCountsSo : MethodName := ⟨RX3, "makesCountsSo", "(I)Z"⟩
abbrev cX3_lastCounted : ByteArray := prog_1_method_38_code
def yX3_lastCounted : MethodName := ⟨RX3, "lastCounted", "()I"⟩
abbrev cX3_isAsCounted : ByteArray := prog_1_method_39_code
def yX3_isAsCounted : MethodName := ⟨RX3, "isAsCounted", "(II)Z"⟩
abbrev cX3_odds : ByteArray := prog_1_method_40_code
def yX3_odds : MethodName := ⟨RX3, "odds", "(II)I"⟩
abbrev cX3_power : ByteArray := prog_1_method_41_code
def yX3_power : MethodName := ⟨RX3, "power", "(II)I"⟩
abbrev cX3_inLeastTerms : ByteArray := prog_1_method_42_code
def yX3_inLeastTerms : MethodName := ⟨RX3, "inLeastTerms", "(III)I"⟩
abbrev cX3_rate : ByteArray := prog_1_method_43_code
def yX3_rate : MethodName := ⟨RX3, "rate", "(II)I"⟩
abbrev cX3_asCitizen : ByteArray := prog_1_method_44_code
def yX3_asCitizen : MethodName := ⟨RX3, "asCitizen", "(I)I"⟩
abbrev cX3_asBaker : ByteArray := prog_1_method_45_code
def yX3_asBaker : MethodName := ⟨RX3, "asBaker", "(I)I"⟩
abbrev cX3_asDeputy : ByteArray := prog_1_method_46_code
def yX3_asDeputy : MethodName := ⟨RX3, "asDeputy", "(I)I"⟩
abbrev cX3_asGuard : ByteArray := prog_1_method_47_code
def yX3_asGuard : MethodName := ⟨RX3, "asGuard", "(I)I"⟩
abbrev cX3_asTwin : ByteArray := prog_1_method_48_code
def yX3_asTwin : MethodName := ⟨RX3, "asTwin", "(I)I"⟩
abbrev cX3_asVeteran : ByteArray := prog_1_method_49_code
def yX3_asVeteran : MethodName := ⟨RX3, "asVeteran", "(I)I"⟩
abbrev cX3_keep : ByteArray := prog_1_method_50_code
def yX3_keep : MethodName := ⟨RX3, "keep", "(I)I"⟩
abbrev cX3_back : ByteArray := prog_1_method_51_code
def yX3_back : MethodName := ⟨RX3, "back", "(I)I"⟩
abbrev cX3_count : ByteArray := prog_1_method_52_code
def yX3_count : MethodName := ⟨RX3, "count", "(I)I"⟩
abbrev cX3_trace : ByteArray := prog_1_method_53_code
def yX3_trace : MethodName := ⟨RX3, "trace", "()J"⟩
def RX4 : String := "SleepCallsModel"
def TX4 : u_T := fun k => match k with
  | 0 => ("SleepCallsModel", "trace", "J", false)
  | 1 => ("SleepCallsModel", "text", "[I", true)
  | 2 => ("SleepCallsModel", "typed", "I", false)
  | 3 => ("SleepCallsModel", "told", "[I", true)
  | 4 => ("SleepCallsModel", "draft", "[I", true)
  | 5 => ("SleepCallsModel", "s", "[I", true)
  | 6 => ("SleepCallsModel", "past", "[I", true)
  | 7 => ("SleepCallsModel", "known", "I", false)
  | 8 => ("SleepCallsModel", "images", "[I", true)
  | 9 => ("SleepCallsModel", "kept", "[Z", true)
  | 10 => ("SleepCallsModel", "counts", "[I", true)
  | 11 => ("SleepCallsModel", "counted", "I", false)
  | 12 => ("SleepCallsModel", "at", "I", false)
  | 13 => ("SleepCallsModel", "sort", "I", false)
  | 14 => ("SleepCallsModel", "start", "I", false)
  | 15 => ("SleepCallsModel", "value", "I", false)
  | 16 => ("SleepCallsModel", "heard", "I", false)
  | 17 => ("SleepCallsModel", "never", "I", false)
  | 18 => ("SleepCallsModel", "sham", "I", false)
  | 19 => ("SleepCallsModel", "drumIn", "I", false)
  | 20 => ("SleepCallsModel", "drumLoud", "I", false)
  | 21 => ("SleepCallsModel", "held", "[I", true)
  | 22 => ("SleepCallsModel", "ahead", "[I", true)
  | 23 => ("SleepCallsModel", "tried", "[I", true)
  | 24 => ("SleepCallsModel", "best", "[I", true)
  | _ => ("SleepCallsModel", "fewest", "I", false)
def tyX4 : Nat → FieldType := fun k => match k with
  | 0 => .long
  | 1 => .array .int
  | 2 => .int
  | 3 => .array .int
  | 4 => .array .int
  | 5 => .array .int
  | 6 => .array .int
  | 7 => .int
  | 8 => .array .int
  | 9 => .array .boolean
  | 10 => .array .int
  | 11 => .int
  | 12 => .int
  | 13 => .int
  | 14 => .int
  | 15 => .int
  | 16 => .int
  | 17 => .int
  | 18 => .int
  | 19 => .int
  | 20 => .int
  | 21 => .array .int
  | 22 => .array .int
  | 23 => .array .int
  | 24 => .array .int
  | _ => .int
theorem nmX4 : ∀ a, a < 26 → ∀ b, b < 26 → a ≠ b → (TX4 a).2.1 ≠ (TX4 b).2.1 := by decide +kernel
theorem tyX4_ok : ∀ k, k < 26 → parseFieldDescriptor (TX4 k).2.2.1 = some (tyX4 k) := by decide +kernel
abbrev cX4_init : ByteArray := prog_6_method_1_code
def yX4_init : MethodName := ⟨RX4, "<init>", "()V"⟩
abbrev cX4_in : ByteArray := prog_6_method_3_code
def yX4_in : MethodName := ⟨RX4, "in", "(III)Z"⟩
abbrev cX4_isCitizen : ByteArray := prog_6_method_4_code
def yX4_isCitizen : MethodName := ⟨RX4, "isCitizen", "(I)Z"⟩
abbrev cX4_isDistrict : ByteArray := prog_6_method_5_code
def yX4_isDistrict : MethodName := ⟨RX4, "isDistrict", "(I)Z"⟩
abbrev cX4_ones : ByteArray := prog_6_method_6_code
def yX4_ones : MethodName := ⟨RX4, "ones", "(I)I"⟩
abbrev cX4_type : ByteArray := prog_6_method_7_code
def yX4_type : MethodName := ⟨RX4, "type", "(I)I"⟩
abbrev cX4_clear : ByteArray := prog_6_method_8_code
def yX4_clear : MethodName := ⟨RX4, "clear", "()I"⟩
abbrev cX4_letterAt : ByteArray := prog_6_method_9_code
def yX4_letterAt : MethodName := ⟨RX4, "letterAt", "(I)I"⟩
abbrev cX4_isDigit : ByteArray := prog_6_method_10_code
def yX4_isDigit : MethodName := ⟨RX4, "isDigit", "(I)Z"⟩
abbrev cX4_isItem : ByteArray := prog_6_method_11_code
def yX4_isItem : MethodName := ⟨RX4, "isItem", "(I)Z"⟩
abbrev cX4_token : ByteArray := prog_6_method_12_code
def yX4_token : MethodName := ⟨RX4, "token", "()V"⟩
abbrev cX4_number : ByteArray := prog_6_method_13_code
def yX4_number : MethodName := ⟨RX4, "number", "(III)Z"⟩
abbrev cX4_readsDistricts : ByteArray := prog_6_method_14_code
def yX4_readsDistricts : MethodName := ⟨RX4, "readsDistricts", "()Z"⟩
abbrev cX4_readsQuota : ByteArray := prog_6_method_15_code
def yX4_readsQuota : MethodName := ⟨RX4, "readsQuota", "()Z"⟩
abbrev cX4_readsRoad : ByteArray := prog_6_method_16_code
def yX4_readsRoad : MethodName := ⟨RX4, "readsRoad", "()Z"⟩
abbrev cX4_readsBeds : ByteArray := prog_6_method_17_code
def yX4_readsBeds : MethodName := ⟨RX4, "readsBeds", "()Z"⟩
abbrev cX4_readsCitizen : ByteArray := prog_6_method_18_code
def yX4_readsCitizen : MethodName := ⟨RX4, "readsCitizen", "()Z"⟩
abbrev cX4_readsNoise : ByteArray := prog_6_method_19_code
def yX4_readsNoise : MethodName := ⟨RX4, "readsNoise", "()Z"⟩
abbrev cX4_readsItem : ByteArray := prog_6_method_20_code
def yX4_readsItem : MethodName := ⟨RX4, "readsItem", "()Z"⟩
abbrev cX4_reads : ByteArray := prog_6_method_21_code
def yX4_reads : MethodName := ⟨RX4, "reads", "()Z"⟩
abbrev cX4_begins : ByteArray := prog_6_method_22_code
def yX4_begins : MethodName := ⟨RX4, "begins", "()V"⟩
abbrev cX4_tells : ByteArray := prog_6_method_23_code
def yX4_tells : MethodName := ⟨RX4, "tells", "()V"⟩
abbrev cX4_city : ByteArray := prog_6_method_24_code
def yX4_city : MethodName := ⟨RX4, "city", "()I"⟩
abbrev cX4_district : ByteArray := prog_6_method_25_code
def yX4_district : MethodName := ⟨RX4, "district", "(II)I"⟩
abbrev cX4_citizen : ByteArray := prog_6_method_26_code
def yX4_citizen : MethodName := ⟨RX4, "citizen", "(II)I"⟩
abbrev cX4_noise : ByteArray := prog_6_method_27_code
def yX4_noise : MethodName := ⟨RX4, "noise", "(II)I"⟩
abbrev cX4_most : ByteArray := prog_6_method_28_code
def yX4_most : MethodName := ⟨RX4, "most", "(I)I"⟩
abbrev cX4_now : ByteArray := prog_6_method_29_code
def yX4_now : MethodName := ⟨RX4, "now", "(I)I"⟩
abbrev cX4_keeps : ByteArray := prog_6_method_30_code
def yX4_keeps : MethodName := ⟨RX4, "keeps", "()V"⟩
abbrev cX4_calls : ByteArray := prog_6_method_31_code
def yX4_calls : MethodName := ⟨RX4, "calls", "(II)I"⟩
abbrev cX4_could : ByteArray := prog_6_method_32_code
def yX4_could : MethodName := ⟨RX4, "could", "(IZ)Z"⟩
abbrev cX4_loudest : ByteArray := prog_6_method_33_code
def yX4_loudest : MethodName := ⟨RX4, "loudest", "(I)I"⟩
abbrev cX4_calledNow : ByteArray := prog_6_method_34_code
def yX4_calledNow : MethodName := ⟨RX4, "calledNow", "()I"⟩
abbrev cX4_asleep : ByteArray := prog_6_method_35_code
def yX4_asleep : MethodName := ⟨RX4, "asleep", "(I)I"⟩
abbrev cX4_goes : ByteArray := prog_6_method_36_code
def yX4_goes : MethodName := ⟨RX4, "goes", "(I)Z"⟩
abbrev cX4_hour : ByteArray := prog_6_method_37_code
def yX4_hour : MethodName := ⟨RX4, "hour", "()I"⟩
abbrev cX4_undo : ByteArray := prog_6_method_38_code
def yX4_undo : MethodName := ⟨RX4, "undo", "()I"⟩
abbrev cX4_holds : ByteArray := prog_6_method_39_code
def yX4_holds : MethodName := ⟨RX4, "holds", "()V"⟩
abbrev cX4_lets : ByteArray := prog_6_method_40_code
def yX4_lets : MethodName := ⟨RX4, "lets", "()V"⟩
abbrev cX4_asleepIn : ByteArray := prog_6_method_41_code
def yX4_asleepIn : MethodName := ⟨RX4, "asleepIn", "(I)I"⟩
abbrev cX4_lapseIn : ByteArray := prog_6_method_42_code
def yX4_lapseIn : MethodName := ⟨RX4, "lapseIn", "(I)I"⟩
abbrev cX4_lapse : ByteArray := prog_6_method_43_code
def yX4_lapse : MethodName := ⟨RX4, "lapse", "()I"⟩
abbrev cX4_puts : ByteArray := prog_6_method_44_code
def yX4_puts : MethodName := ⟨RX4, "puts", "(I)V"⟩
abbrev cX4_takes : ByteArray := prog_6_method_45_code
def yX4_takes : MethodName := ⟨RX4, "takes", "(I)V"⟩
abbrev cX4_seeks : ByteArray := prog_6_method_46_code
def yX4_seeks : MethodName := ⟨RX4, "seeks", "(I)V"⟩
abbrev cX4_callUp : ByteArray := prog_6_method_47_code
def yX4_callUp : MethodName := ⟨RX4, "callUp", "(II)I"⟩
abbrev cX4_bears : ByteArray := prog_6_method_48_code
def yX4_bears : MethodName := ⟨RX4, "bears", "()I"⟩
abbrev cX4_cart : ByteArray := prog_6_method_49_code
def yX4_cart : MethodName := ⟨RX4, "cart", "(IIII)I"⟩
abbrev cX4_far : ByteArray := prog_6_method_50_code
def yX4_far : MethodName := ⟨RX4, "far", "(III)I"⟩
abbrev cX4_drum : ByteArray := prog_6_method_51_code
def yX4_drum : MethodName := ⟨RX4, "drum", "(I)I"⟩
abbrev cX4_wants : ByteArray := prog_6_method_52_code
def yX4_wants : MethodName := ⟨RX4, "wants", "(I)I"⟩
abbrev cX4_counted : ByteArray := prog_6_method_53_code
def yX4_counted : MethodName := ⟨RX4, "counted", "(II)I"⟩
abbrev cX4_forget : ByteArray := prog_6_method_54_code
def yX4_forget : MethodName := ⟨RX4, "forget", "()I"⟩
abbrev cX4_isSo : ByteArray := prog_6_method_55_code
def yX4_isSo : MethodName := ⟨RX4, "isSo", "()Z"⟩
abbrev cX4_sham : ByteArray := prog_6_method_56_code
def yX4_sham : MethodName := ⟨RX4, "sham", "()I"⟩
abbrev cX4_odds : ByteArray := prog_6_method_57_code
def yX4_odds : MethodName := ⟨RX4, "odds", "(II)I"⟩
abbrev cX4_rate : ByteArray := prog_6_method_58_code
def yX4_rate : MethodName := ⟨RX4, "rate", "(II)I"⟩
abbrev cX4_keep : ByteArray := prog_6_method_59_code
def yX4_keep : MethodName := ⟨RX4, "keep", "(I)I"⟩
abbrev cX4_back : ByteArray := prog_6_method_60_code
def yX4_back : MethodName := ⟨RX4, "back", "(I)I"⟩
abbrev cX4_count : ByteArray := prog_6_method_61_code
def yX4_count : MethodName := ⟨RX4, "count", "(I)I"⟩
abbrev cX4_trace : ByteArray := prog_6_method_62_code
def yX4_trace : MethodName := ⟨RX4, "trace", "()J"⟩
def RJ6 : String := "java/lang/Integer"
def TJ6 : u_T := fun k => match k with
  | _ => ("", "", "", false)
def tyJ6 : Nat → FieldType := fun k => match k with
  | _ => .int
theorem nmJ6 : ∀ a, a < 0 → ∀ b, b < 0 → a ≠ b → (TJ6 a).2.1 ≠ (TJ6 b).2.1 := by decide +kernel
theorem tyJ6_ok : ∀ k, k < 0 → parseFieldDescriptor (TJ6 k).2.2.1 = some (tyJ6 k) := by decide +kernel
abbrev cJ6_bitCount_0f7a4 : ByteArray := prog_7_method_49_code
def yJ6_bitCount_0f7a4 : MethodName := ⟨RJ6, "bitCount", "(I)I"⟩
def RJ9 : String := "java/lang/Math"
def TJ9 : u_T := fun k => match k with
  | _ => ("", "", "", false)
def tyJ9 : Nat → FieldType := fun k => match k with
  | _ => .int
theorem nmJ9 : ∀ a, a < 0 → ∀ b, b < 0 → a ≠ b → (TJ9 a).2.1 ≠ (TJ9 b).2.1 := by decide +kernel
theorem tyJ9_ok : ∀ k, k < 0 → parseFieldDescriptor (TJ9 k).2.2.1 = some (tyJ9 k) := by decide +kernel
abbrev cJ9_max_7cf53 : ByteArray := prog_8_method_65_code
def yJ9_max_7cf53 : MethodName := ⟨RJ9, "max", "(II)I"⟩
abbrev cJ9_min_7cf53 : ByteArray := prog_8_method_69_code
def yJ9_min_7cf53 : MethodName := ⟨RJ9, "min", "(II)I"⟩
def RJ10 : String := "java/lang/System"
def TJ10 : u_T := fun k => match k with
  | _ => ("", "", "", false)
def tyJ10 : Nat → FieldType := fun k => match k with
  | _ => .int
theorem nmJ10 : ∀ a, a < 0 → ∀ b, b < 0 → a ≠ b → (TJ10 a).2.1 ≠ (TJ10 b).2.1 := by decide +kernel
theorem tyJ10_ok : ∀ k, k < 0 → parseFieldDescriptor (TJ10 k).2.2.1 = some (tyJ10 k) := by decide +kernel
end
section
/-! the pure heap: rows of ints, of references, of longs, by the place of the cell and its slot; cells are made in one fixed order -/
abbrev HM : Type := Nat → Nat → Int32
abbrev HR : Type := Nat → Nat → Option Nat
abbrev HL : Type := Nat → Nat → Int64
abbrev HP : Type := Nat × HM × HR × HL
def lay_city : List (Nat × Nat) := [(0, 16), (6, 4), (6, 4), (6, 6), (6, 6), (6, 6), (6, 6), (6, 6), (6, 6), (6, 6), (6, 4), (6, 8)]
def lay_now : List (Nat × Nat) := [(1, 6), (6, 6), (6, 6), (6, 6)]
def lay : List (Nat × Nat) := [(3, 17), (2, 7), (5, 200), (6, 4)] ++ (lay_city ++ (lay_city ++ (lay_now ++ (lay_now ++ ([(8, 10), (8, 2), (7, 2), (6, 6), (6, 6), (6, 3), (9, 4), (6, 6), (6, 6), (6, 6), (6, 6), (6, 4)] ++ ((List.replicate 12 lay_now).flatten ++ [(4, 26), (6, 200), (6, 56), (6, 56), (6, 21), (6, 210), (6, 42), (7, 2), (6, 6), (6, 21), (6, 63), (6, 3), (6, 3)]))))))
def shp (k : Nat) : Nat × Nat := lay.getD k (99, 0)
def cnm (t : Nat) : String := match t with
  | 0 => RX0
  | 1 => RX1
  | 2 => RX2
  | 3 => RX3
  | _ => RX4
def ctb (t : Nat) : u_T := match t with
  | 0 => TX0
  | 1 => TX1
  | 2 => TX2
  | 3 => TX3
  | _ => TX4
def cty (t : Nat) : Nat → FieldType := match t with
  | 0 => tyX0
  | 1 => tyX1
  | 2 => tyX2
  | 3 => tyX3
  | _ => tyX4
def cln (t : Nat) : Nat := match t with
  | 0 => 16
  | 1 => 6
  | 2 => 7
  | 3 => 17
  | _ => 26
def aty (t : Nat) : FieldType := match t with
  | 5 => .char
  | 6 => .int
  | 7 => .boolean
  | 8 => .object RX1
  | _ => .array .int
/-- a pure value as the machine has it; retAddr stands for a reference that is no cell of ours -/
def rvB (B : Nat) (v : Value) : Value := match v with
  | .ref a => .ref (B + a)
  | .retAddr a => .ref a
  | v => v
theorem rvB_cat (B : Nat) (v : Value) : (rvB B v).category = v.category := by cases v <;> rfl
def fvl (B : Nat) (M : HM) (Rf : HR) (Lg : HL) (t k j : Nat) : Value := match cty t j with
  | .int => .int (M k j)
  | .boolean => .int (M k j)
  | .long => .long (Lg k j)
  | _ => va_rf ((Rf k j).map (B + ·))
def wE (B : Nat) (D : va_G) (cA : Nat → ClassId) (M : HM) (Rf : HR) (Lg : HL) (k : Nat) (H : Heap) : Prop :=
  if (shp k).1 < 5 then t_OB (B + k) (D.1 (shp k).1) (cln (shp k).1) (D.2 (shp k).1) H (fun j => fvl B M Rf Lg (shp k).1 k j)
  else if (shp k).1 < 8 then H[B + k]? = some (arrV (cA (shp k).1) (shp k).2 (fun j => .int (M k j)))
  else H[B + k]? = some (arrV (cA (shp k).1) (shp k).2 (fun j => va_rf ((Rf k j).map (B + ·))))
theorem wE_obj {B : Nat} {D : va_G} {cA : Nat → ClassId} {M : HM} {Rf : HR} {Lg : HL} {k : Nat} {H : Heap} {t N : Nat} (hs : shp k = (t, N)) (ht : t < 5) : wE B D cA M Rf Lg k H ↔ t_OB (B + k) (D.1 t) (cln t) (D.2 t) H (fun j => fvl B M Rf Lg t k j) := by
  unfold wE; rw [hs]; simp only [ht, if_true]
theorem wE_int {B : Nat} {D : va_G} {cA : Nat → ClassId} {M : HM} {Rf : HR} {Lg : HL} {k : Nat} {H : Heap} {t N : Nat} (hs : shp k = (t, N)) (ht : 5 ≤ t) (ht2 : t < 8) : wE B D cA M Rf Lg k H ↔ H[B + k]? = some (arrV (cA t) N (fun j => .int (M k j))) := by
  unfold wE; rw [hs]; simp only [ht2, if_true, if_neg (Nat.not_lt.mpr ht)]
theorem wE_ref {B : Nat} {D : va_G} {cA : Nat → ClassId} {M : HM} {Rf : HR} {Lg : HL} {k : Nat} {H : Heap} {t N : Nat} (hs : shp k = (t, N)) (ht : 8 ≤ t) : wE B D cA M Rf Lg k H ↔ H[B + k]? = some (arrV (cA t) N (fun j => va_rf ((Rf k j).map (B + ·)))) := by
  unfold wE; rw [hs]; simp only [if_neg (Nat.not_lt.mpr ht), if_neg (show ¬ t < 5 by omega)]
theorem wE.kept {B : Nat} {D : va_G} {cA : Nat → ClassId} {M M' : HM} {Rf Rf' : HR} {Lg Lg' : HL} {k : Nat} {H H1 : Heap} (h : wE B D cA M Rf Lg k H) (hq : H1[B + k]? = H[B + k]?) (h1 : M' k = M k) (h2 : Rf' k = Rf k) (h3 : Lg' k = Lg k) : wE B D cA M' Rf' Lg' k H1 := by
  have e : (fun j => fvl B M' Rf' Lg' (shp k).1 k j) = (fun j => fvl B M Rf Lg (shp k).1 k j) := by
    funext j; simp only [fvl, h1, h2, h3]
  unfold wE at h ⊢
  rw [e, h1, h2, hq]
  by_cases c : (shp k).1 < 5
  · rw [if_pos c] at h ⊢
    exact t_OB.kept h hq
  · rw [if_neg c] at h ⊢
    exact h
def PW (B : Nat) (D : va_G) (cA : Nat → ClassId) (h : HP) (H : Heap) : Prop := H.size = B + h.1 ∧ ∀ k, k < h.1 → wE B D cA h.2.1 h.2.2.1 h.2.2.2 k H
theorem PW.upd {B : Nat} {D : va_G} {cA : Nat → ClassId} {n : Nat} {M M' : HM} {Rf Rf' : HR} {Lg Lg' : HL} {k : Nat} {H H1 : Heap} (hP : PW B D cA (n, M, Rf, Lg) H) (z : H1.size = H.size) (oq : ∀ q : Nat, q ≠ B + k → H1[q]? = H[q]?) (hM : ∀ x, x ≠ k → M' x = M x) (hR : ∀ x, x ≠ k → Rf' x = Rf x) (hL : ∀ x, x ≠ k → Lg' x = Lg x) (hw : wE B D cA M' Rf' Lg' k H1) : PW B D cA (n, M', Rf', Lg') H1 := by
  refine ⟨by rw [z]; exact hP.1, fun x hx => ?_⟩
  by_cases e : x = k
  · subst e; exact hw
  · exact (hP.2 x hx).kept (oq _ (by omega)) (hM x e) (hR x e) (hL x e)
theorem PW.grow {B : Nat} {D : va_G} {cA : Nat → ClassId} {n : Nat} {M : HM} {Rf : HR} {Lg : HL} {H H1 : Heap} (hP : PW B D cA (n, M, Rf, Lg) H) (z : H1.size = H.size + 1) (oq : ∀ q : Nat, q < H.size → H1[q]? = H[q]?) (hw : wE B D cA M Rf Lg n H1) : PW B D cA (n + 1, M, Rf, Lg) H1 := by
  have hs : H.size = B + n := hP.1
  refine ⟨by show H1.size = B + (n + 1); omega, fun x hx => ?_⟩
  have hx' : x < n + 1 := hx
  by_cases e : x = n
  · subst e; exact hw
  · have hlt : x < n := by omega
    exact (hP.2 x hlt).kept (oq _ (by omega)) rfl rfl rfl
def st2 {α : Type} (M : Nat → Nat → α) (k j : Nat) (v : α) : Nat → Nat → α := fun x y => if x = k ∧ y = j then v else M x y
theorem st2_ne {α : Type} (M : Nat → Nat → α) {k : Nat} (j : Nat) (v : α) {x : Nat} (h : x ≠ k) : st2 M k j v x = M x := by
  funext y; simp [st2, h]
theorem st2_row {α : Type} (M : Nat → Nat → α) (k j : Nat) (v : α) (y : Nat) : st2 M k j v k y = if y = j then v else M k y := by
  simp [st2]
def nestW : List Cond := [.methodLinkNest RX3 11 yX2_init RX3, .methodLinkNest RX3 18 yX0_init RX3, .methodLinkNest RX3 28 yX1_init RX3, .methodLinkNest RX0 69 yX3_has RX3, .methodLinkNest RX1 42 yX3_tire RX3]
theorem nestW_in : ∀ w ∈ nestW, w ∈ lw_tbl := by decide +kernel
theorem nestW_warm {s U : State} (hW : s.WarmedH U.vm) : ∀ w ∈ nestW, va_Nw w s → va_Nw w U := by
  intro w hw h
  simp only [nestW, List.mem_cons, List.not_mem_nil, or_false] at hw
  rcases hw with rfl | rfl | rfl | rfl | rfl <;> exact va_Nw.warmM hW h
theorem nestW_same {s U : State} (e : s.vm = U.vm) : ∀ w ∈ nestW, va_Nw w s → va_Nw w U := by
  intro w hw h
  simp only [nestW, List.mem_cons, List.not_mem_nil, or_false] at hw
  rcases hw with rfl | rfl | rfl | rfl | rfl <;> exact va_Nw.same rfl e h
def AOA (U : State) : Prop := (Cond.arrayOver (.array .int)).before #[] U = true
theorem AOA.moved {u U : State} (hvm : u.vm.Alike U.vm) (h : AOA u) : AOA U := by
  unfold AOA Cond.before Cond.holds at h ⊢
  simp only [Cond.value, beq_iff_eq] at h ⊢
  cases hc : u.vm.findClass (FieldType.array .int).toString with
  | none => simp [hc] at h
  | some comp =>
    simp only [hc, Option.bind_some, Option.bind_eq_some_iff, Option.map_eq_some_iff] at h
    obtain ⟨c, hi, k, hk, hb⟩ := h
    obtain ⟨k', hk', he⟩ := hvm.2.2 _ _ hk
    have hbe : U.vm.bare = u.vm.bare := by first | exact hvm.bare_eq | exact hvm.bare_eq.symm
    have hi' := (va_idx_bare U.vm comp).symm.trans ((by rw [hbe] : (U.vm.bare.classes.findIdx? fun (x : Class) => match x.kind with | .array component _ => component == comp | _ => false) = (u.vm.bare.classes.findIdx? fun (x : Class) => match x.kind with | .array component _ => component == comp | _ => false)).trans ((va_idx_bare u.vm comp).trans hi))
    have f1 : U.vm.findClass (FieldType.array .int).toString = some comp := by rw [hvm.findClass]; exact hc
    have hkd : k'.kind = k.kind := by rw [he]
    simp only [f1, Option.bind_some, Option.bind_eq_some_iff, Option.map_eq_some_iff]
    refine ⟨c, hi', k', hk', ?_⟩
    rw [hkd, hvm.findClass]
    exact hb
/-- what the tables say of our classes and arrays -/
def KnAll (U : State) (D : va_G) (cA : Nat → ClassId) : Prop := (∀ t, t < 5 → u_Kn U (cnm t) (ctb t) (cln t) (D.1 t) (D.2 t)) ∧ (∀ t, 5 ≤ t → t < 10 → ArrOfT U (cA t) (aty t) ∧ va_RA U (cA t) (aty t)) ∧ (∀ w ∈ nestW, va_Nw w U) ∧ va_AO RX1 U ∧ AOA U
theorem KnAll.warm {u U : State} {D : va_G} {cA : Nat → ClassId} (hW : u.WarmedH U.vm) (h : KnAll u D cA) : KnAll U D cA := ⟨fun t ht => u_Kn_moved hW.alike (h.1 t ht), fun t h1 h2 => ⟨arrOfT_moved hW.alike (h.2.1 t h1 h2).1, (h.2.1 t h1 h2).2.moved hW.alike⟩, fun w hw => nestW_warm hW w hw (h.2.2.1 w hw), va_AO.moved hW.alike h.2.2.2.1, AOA.moved hW.alike h.2.2.2.2⟩
theorem KnAll.same {u U : State} {D : va_G} {cA : Nat → ClassId} (e : u.vm = U.vm) (h : KnAll u D cA) : KnAll U D cA := by
  have hv : u.vm.Alike U.vm := by rw [e]; exact Vm.Alike.refl _
  exact ⟨fun t ht => u_Kn_moved hv (h.1 t ht), fun t h1 h2 => ⟨arrOfT_moved hv (h.2.1 t h1 h2).1, (h.2.1 t h1 h2).2.moved hv⟩, fun w hw => nestW_same e w hw (h.2.2.1 w hw), va_AO.moved hv h.2.2.2.1, AOA.moved hv h.2.2.2.2⟩
def gtbl : List Cond := lw_tbl.filter goodWord
theorem gt_of {w : Cond} (h : w ∈ lw_tbl) (h2 : goodWord w = true) : w ∈ gtbl := List.mem_filter.mpr ⟨h, h2⟩
theorem gt_t {w : Cond} (i : Nat) (h : tables_1[i]? = some w) (h2 : goodWord w = true) : w ∈ gtbl := gt_of (List.mem_append_right _ (List.mem_of_getElem? h)) h2
theorem gt_s {w : Cond} (i : Nat) (h : (k2_sels lw_privs)[i]? = some w) (h2 : goodWord w = true) : w ∈ gtbl := gt_of (List.mem_append_left _ (List.mem_of_getElem? h)) h2
theorem gt_good {x : Cond} (hx : x ∈ gtbl) : GoodIn (x :: gtbl) (x :: gtbl) := by
  intro w hw
  have h1 : w ∈ gtbl := by
    rcases List.mem_cons.mp hw with rfl | h
    · exact hx
    · exact h
  exact ⟨hw, good_of_word (List.mem_filter.mp h1).2⟩
theorem gt_in {x : Cond} (hx : x ∈ gtbl) {w : Cond} (hw : w ∈ x :: gtbl) : w ∈ gtbl ∧ ((w.onTables && w.keeps) = true ∨ ∃ ty, w = .arrayClass ty) := by
  have h1 : w ∈ gtbl := by
    rcases List.mem_cons.mp hw with rfl | h
    · exact hx
    · exact h
  exact ⟨h1, good_of_word (List.mem_filter.mp h1).2⟩
theorem in_0 : ∀ w ∈ u_ws RX0 TX0 16, w ∈ gtbl := by decide +kernel
theorem in_1 : ∀ w ∈ u_ws RX1 TX1 6, w ∈ gtbl := by decide +kernel
theorem in_2 : ∀ w ∈ u_ws RX2 TX2 7, w ∈ gtbl := by decide +kernel
theorem in_3 : ∀ w ∈ u_ws RX3 TX3 17, w ∈ gtbl := by decide +kernel
theorem in_4 : ∀ w ∈ u_ws RX4 TX4 26, w ∈ gtbl := by decide +kernel
theorem in_all (t : Nat) (h : t < 5) : ∀ w ∈ u_ws (cnm t) (ctb t) (cln t), w ∈ gtbl := by
  match t, h with
  | 0, _ => exact in_0
  | 1, _ => exact in_1
  | 2, _ => exact in_2
  | 3, _ => exact in_3
  | 4, _ => exact in_4
theorem nm_all (t : Nat) (h : t < 5) : ∀ a, a < cln t → ∀ b, b < cln t → a ≠ b → (ctb t a).2.1 ≠ (ctb t b).2.1 := by
  match t, h with
  | 0, _ => exact nmX0
  | 1, _ => exact nmX1
  | 2, _ => exact nmX2
  | 3, _ => exact nmX3
  | 4, _ => exact nmX4
theorem ty_all (t : Nat) (h : t < 5) : ∀ k, k < cln t → parseFieldDescriptor (ctb t k).2.2.1 = some (cty t k) := by
  match t, h with
  | 0, _ => exact tyX0_ok
  | 1, _ => exact tyX1_ok
  | 2, _ => exact tyX2_ok
  | 3, _ => exact tyX3_ok
  | 4, _ => exact tyX4_ok
/-! the locals -/
def lget (ls : List (Option Value)) (i : Nat) : Option Value := match ls, i with
  | [], _ => none
  | x :: _, 0 => x
  | _ :: t, i + 1 => lget t i
theorem lget_eq (ls : List (Option Value)) (i : Nat) (v : Value) (h : lget ls i = some v) : ls[i]? = some (some v) := by
  induction ls generalizing i with
  | nil => simp [lget] at h
  | cons x t ih =>
    cases i with
    | zero => simp [lget] at h; simp [h]
    | succ i => simp only [lget] at h; simpa using ih i h
def lsH (B : Nat) (la : Array Slot) (ls : List (Option Value)) : Prop := la.size = ls.length ∧ lv_wf la ∧ ∀ (i : Nat) (v : Value), ls[i]? = some (some v) → la[i]? = some (Slot.val (rvB B v)) ∧ v.category = 1
theorem lsH.at {B : Nat} {la : Array Slot} {ls : List (Option Value)} (h : lsH B la ls) {i : Nat} {v : Value} (hi : lget ls i = some v) : la[i]? = some (.val (rvB B v)) := (h.2.2 i v (lget_eq ls i v hi)).1
def lvl (B : Nat) (ls : List (Option Value)) : List (Nat × Value) := (List.range ls.length).filterMap (fun i => (ls[i]?.join).map (fun v => (i, rvB B v)))
theorem lvl_mem {B : Nat} {ls : List (Option Value)} {q : Nat × Value} : q ∈ lvl B ls ↔ ∃ v, ls[q.1]? = some (some v) ∧ q.2 = rvB B v := by
  unfold lvl
  rw [List.mem_filterMap]
  constructor
  · rintro ⟨i, -, hi⟩
    cases e : ls[i]? with
    | none => rw [e] at hi; simp at hi
    | some o =>
      cases o with
      | none => rw [e] at hi; simp at hi
      | some v =>
        rw [e] at hi
        simp at hi
        subst hi
        exact ⟨v, e, rfl⟩
  · rintro ⟨v, h1, h2⟩
    refine ⟨q.1, List.mem_range.mpr (List.getElem?_eq_some_iff.mp h1).1, ?_⟩
    rw [h1]
    simp [← h2]
theorem lsH.has {B : Nat} {la : Array Slot} {ls : List (Option Value)} (h : lsH B la ls) : lv_has la ls.length (lvl B ls) := by
  refine ⟨h.1, h.2.1, fun q hq => ?_⟩
  obtain ⟨v, h1, h2⟩ := lvl_mem.mp hq
  rw [h2]
  exact (h.2.2 _ v h1).1
theorem lsH.of {B : Nat} {la la' : Array Slot} {ls : List (Option Value)} (h : lsH B la ls) {i : Nat} {v : Value} (hi : i < ls.length) (hv : v.category = 1) (h' : lv_has la' ls.length ((i, rvB B v) :: (lvl B ls).filter (fun q => !(q.1 == i) && !(q.1 + 1 == i && q.2.category == 2)))) : lsH B la' (ls.set i (some v)) := by
  refine ⟨by rw [List.length_set]; exact h'.1, h'.2.1, fun j w hj => ?_⟩
  by_cases e : j = i
  · subst e
    rw [List.getElem?_set_self hi] at hj
    cases hj
    exact ⟨h'.2.2 _ List.mem_cons_self, hv⟩
  · rw [List.getElem?_set_ne (Ne.symm e)] at hj
    obtain ⟨g1, g2⟩ := h.2.2 j w hj
    refine ⟨h'.2.2 (j, rvB B w) (List.mem_cons_of_mem _ (List.mem_filter.mpr ⟨lvl_mem.mpr ⟨w, hj, rfl⟩, ?_⟩)), g2⟩
    simp [e, rvB_cat, g2]
theorem lsH.entry (B : Nat) (As : List Value) (n : Nat) (hn : As.length ≤ n) (hc : ∀ v ∈ As, v.category = 1) : lsH B ((lg_sl (As.map (rvB B)) ++ List.replicate (n - (lg_sl (As.map (rvB B))).length) Slot.unset).toArray) (As.map some ++ List.replicate (n - As.length) none) := by
  have hc' : ∀ v ∈ As.map (rvB B), v.category = 1 := by
    intro v hv
    obtain ⟨w, hw, rfl⟩ := List.mem_map.mp hv
    rw [rvB_cat]; exact hc w hw
  have e : lg_sl (As.map (rvB B)) = (As.map (rvB B)).map Slot.val := by
    generalize As.map (rvB B) = L at hc'
    induction L with
    | nil => rfl
    | cons x t ih =>
      have hx := hc' x List.mem_cons_self
      have := ih (fun v hv => hc' v (List.mem_cons_of_mem _ hv))
      unfold lg_sl at this ⊢
      rw [List.flatMap_cons, this]
      simp [hx]
  have hlen : (lg_sl (As.map (rvB B))).length = As.length := by rw [e]; simp
  have h0 := lv_entry (As.map (rvB B)) (n := n) (by rw [hlen]; exact hn)
  refine ⟨?_, h0.2.1, fun i v hi => ?_⟩
  · rw [h0.1]; simp; omega
  · by_cases hl : i < As.length
    · rw [List.getElem?_append_left (by simpa using hl)] at hi
      rw [List.getElem?_map] at hi
      have hv : As[i]? = some v := by
        cases e2 : As[i]? with
        | none => rw [e2] at hi; cases hi
        | some w => rw [e2] at hi; cases hi; rfl
      refine ⟨?_, hc v (List.mem_of_getElem? hv)⟩
      have hv2 : As[i] = v := by
        have := List.getElem?_eq_getElem hl
        rw [hv] at this
        exact (Option.some.inj this).symm
      rw [e]
      simp [List.getElem?_append_left, hl, hv2]
    · exfalso
      rw [List.getElem?_append_right (by simpa using hl)] at hi
      have := List.mem_of_getElem? hi
      simp at this
end
section
abbrev PL : Type := Launch × Nat × va_G × (Nat → ClassId)
abbrev KR : Type := Program × Env × Room × State × MethodId × Array Value × List Frame × Method × Code × (State → Prop)
abbrev KT : Type := PL × KR
/-- from this frame over this pure heap the machine comes to the end that K names -/
def G (K : KT) (pc : Nat) (ls : List (Option Value)) (st : List Value) (h : HP) (x y : Nat) : Prop := match K with
  | ((l, B, D, cA), (p, e, R, s, m, args, below, meth, c, Q)) => ∀ (H : Heap) (locs : List Loc) (la : Array Slot), PW B D cA h H → va_S (fun q => B ≤ q) s.heap H locs → lsH B la ls → W p l e R s m args below meth c H locs x y Q (F0 m pc la (st.map (rvB B)))
/-- what holds all through a method -/
def Ok (K : KT) (cc : ByteArray) (own : String) (nL d RC RS : Nat) : Prop := match K with
  | ((_, B, D, cA), (p, _, R, s, m, args, _, _, c, _)) => p.tables.exec = Jvm.exec ∧ c.code = cc ∧ c.maxLocals = nL ∧ s.vm.findClass own = some m.cls ∧ (∀ w ∈ gtbl, w.before args s = true) ∧ KnAll s D cA ∧ B ≤ s.heap.size ∧ d ≤ R.frames ∧ 40 * d ≤ R.locals ∧ R.cells = RC ∧ R.slots = RS
def RQ (B : Nat) (D : va_G) (cA : Nat → ClassId) (v : Option Value) (h : HP) : Array Value → State → Outcome → State → Prop := fun _ st oc t => oc = .returned (v.map (rvB B)) ∧ PW B D cA h t.heap ∧ va_F (fun q => B ≤ q) st t
/-- what the end of a method is: this answer, this heap -/
def Fin1 (K : KT) (ret : Option FieldType) (v : Option Value) (h : HP) (mc ms : Nat) : Prop := match K with
  | ((_, B, D, cA), (_, _, _, s, _, args, below, meth, _, Q)) => Q = MQ below (RQ B D cA v h) args s mc ms (fun q => B ≤ q) ∧ meth.sig.returnType = ret ∧ meth.locks = false
abbrev MT : Type := MethodName × ByteArray × Nat × Option FieldType
/-- a method's contract: with these arguments, over this heap, it returns v and leaves h'; mc cells of ms slots are new -/
def Ret (Λ : PL) (d : Nat) (μ : MT) (As : List Value) (h : HP) (v : Option Value) (h' : HP) (mc ms : Nat) : Prop :=
  Met Λ.1 μ.1 (.code μ.1 μ.2.1 μ.2.2.1 μ.2.2.2 :: gtbl) { frames := d, cells := mc, slots := ms, locals := 40 * d } (va_Pc (As.map (rvB Λ.2.1)) (fun U => PW Λ.2.1 Λ.2.2.1 Λ.2.2.2 h U.heap ∧ KnAll U Λ.2.2.1 Λ.2.2.2)) (RQ Λ.2.1 Λ.2.2.1 Λ.2.2.2 v h') mc ms (fun q => Λ.2.1 ≤ q)
section RULES
variable {K : KT} {cc : ByteArray} {own : String} {nL d RC RS : Nat} {pc : Nat} {ls : List (Option Value)} {st : List Value} {h : HP} {n : Nat} {M : HM} {Rf : HR} {Lg : HL} {x y : Nat}
theorem g_iconst (o : Ok K cc own nL d RC RS) {i : Int} {v : Int32} (hd : decode cc pc = .ok (.iconst i, 1)) (hv : Int32.ofInt i = v) (k : G K (pc + 1) ls (.int v :: st) h x y) : G K pc ls st h x y := by
  obtain ⟨⟨l, B, D, cA⟩, p, e, R, s, m, args, below, meth, c, Q⟩ := K
  intro H locs la hP hS hl
  exact lv_iconst o.1 o.2.1 hd hv (k H locs la hP hS hl)
theorem g_bipush (o : Ok K cc own nL d RC RS) {i : Int} {v : Int32} (hd : decode cc pc = .ok (.bipush i, 2)) (hv : (Int8.ofInt i).toInt32 = v) (k : G K (pc + 2) ls (.int v :: st) h x y) : G K pc ls st h x y := by
  obtain ⟨⟨l, B, D, cA⟩, p, e, R, s, m, args, below, meth, c, Q⟩ := K
  intro H locs la hP hS hl
  exact lv_bipush o.1 o.2.1 hd hv (k H locs la hP hS hl)
theorem g_sipush (o : Ok K cc own nL d RC RS) {i : Int} {v : Int32} (hd : decode cc pc = .ok (.sipush i, 3)) (hv : (Int16.ofInt i).toInt32 = v) (k : G K (pc + 3) ls (.int v :: st) h x y) : G K pc ls st h x y := by
  obtain ⟨⟨l, B, D, cA⟩, p, e, R, s, m, args, below, meth, c, Q⟩ := K
  intro H locs la hP hS hl
  exact lv_sipush o.1 o.2.1 hd hv (k H locs la hP hS hl)
theorem g_lconst (o : Ok K cc own nL d RC RS) {i : Fin 2} {v : Int64} (hd : decode cc pc = .ok (.lconst i, 1)) (hv : Int64.ofNat (i : Nat) = v) (k : G K (pc + 1) ls (.long v :: st) h x y) : G K pc ls st h x y := by
  obtain ⟨⟨l, B, D, cA⟩, p, e, R, s, m, args, below, meth, c, Q⟩ := K
  intro H locs la hP hS hl
  exact lv_lconst o.1 o.2.1 hd hv (k H locs la hP hS hl)
theorem g_ldc (o : Ok K cc own nL d RC RS) {i : Nat} {v : Int32} (hw : Cond.constant own i v ∈ gtbl) (hd : decode cc pc = .ok (.ldc i, 2)) (k : G K (pc + 2) ls (.int v :: st) h x y) : G K pc ls st h x y := by
  obtain ⟨⟨l, B, D, cA⟩, p, e, R, s, m, args, below, meth, c, Q⟩ := K
  intro H locs la hP hS hl
  exact lv_ldc o.1 o.2.1 o.2.2.2.1 (o.2.2.2.2.1 _ hw) hd (k H locs la hP hS hl)
theorem g_ldcw (o : Ok K cc own nL d RC RS) {i : Nat} {v : Int32} (hw : Cond.constant own i v ∈ gtbl) (hd : decode cc pc = .ok (.ldc_w i, 3)) (k : G K (pc + 3) ls (.int v :: st) h x y) : G K pc ls st h x y := by
  obtain ⟨⟨l, B, D, cA⟩, p, e, R, s, m, args, below, meth, c, Q⟩ := K
  intro H locs la hP hS hl
  exact lv_ldcw o.1 o.2.1 o.2.2.2.1 (o.2.2.2.2.1 _ hw) hd (k H locs la hP hS hl)
theorem g_ldc2 (o : Ok K cc own nL d RC RS) {i : Nat} {v : Int64} (hw : Cond.constantLong own i v ∈ gtbl) (hd : decode cc pc = .ok (.ldc2_w i, 3)) (k : G K (pc + 3) ls (.long v :: st) h x y) : G K pc ls st h x y := by
  obtain ⟨⟨l, B, D, cA⟩, p, e, R, s, m, args, below, meth, c, Q⟩ := K
  intro H locs la hP hS hl
  exact lv_ldc2 o.1 o.2.1 o.2.2.2.1 (o.2.2.2.2.1 _ hw) hd (k H locs la hP hS hl)
theorem g_iload_n (o : Ok K cc own nL d RC RS) {i : Fin 4} (j : Nat) {v : Int32} (hd : decode cc pc = .ok (.iload_n i, 1)) (hj : (i : Nat) = j) (hv : lget ls j = some (.int v)) (k : G K (pc + 1) ls (.int v :: st) h x y) : G K pc ls st h x y := by
  obtain ⟨⟨l, B, D, cA⟩, p, e, R, s, m, args, below, meth, c, Q⟩ := K
  intro H locs la hP hS hl
  exact lv_iload_n o.1 o.2.1 hd hj (hl.at hv) (k H locs la hP hS hl)
theorem g_iload (o : Ok K cc own nL d RC RS) {j : Nat} {v : Int32} (hd : decode cc pc = .ok (.iload j, 2)) (hv : lget ls j = some (.int v)) (k : G K (pc + 2) ls (.int v :: st) h x y) : G K pc ls st h x y := by
  obtain ⟨⟨l, B, D, cA⟩, p, e, R, s, m, args, below, meth, c, Q⟩ := K
  intro H locs la hP hS hl
  exact lv_iload o.1 o.2.1 hd (hl.at hv) (k H locs la hP hS hl)
theorem g_aload_n (o : Ok K cc own nL d RC RS) {i : Fin 4} (j : Nat) {v : Nat} (hd : decode cc pc = .ok (.aload_n i, 1)) (hj : (i : Nat) = j) (hv : lget ls j = some (.ref v)) (k : G K (pc + 1) ls (.ref v :: st) h x y) : G K pc ls st h x y := by
  obtain ⟨⟨l, B, D, cA⟩, p, e, R, s, m, args, below, meth, c, Q⟩ := K
  intro H locs la hP hS hl
  exact lv_aload_n o.1 o.2.1 hd hj (hl.at hv) (k H locs la hP hS hl)
theorem g_aload_nX (o : Ok K cc own nL d RC RS) {i : Fin 4} (j : Nat) {v : Nat} (hd : decode cc pc = .ok (.aload_n i, 1)) (hj : (i : Nat) = j) (hv : lget ls j = some (.retAddr v)) (k : G K (pc + 1) ls (.retAddr v :: st) h x y) : G K pc ls st h x y := by
  obtain ⟨⟨l, B, D, cA⟩, p, e, R, s, m, args, below, meth, c, Q⟩ := K
  intro H locs la hP hS hl
  exact lv_aload_n o.1 o.2.1 hd hj (hl.at hv) (k H locs la hP hS hl)
theorem g_istore_n (o : Ok K cc own nL d RC RS) {i : Fin 4} (j : Nat) {v : Int32} (hd : decode cc pc = .ok (.istore_n i, 1)) (hj : (i : Nat) = j) (hn : Nat.blt j ls.length = true) (k : G K (pc + 1) (ls.set j (some (.int v))) st h x y) : G K pc ls (.int v :: st) h x y := by
  obtain ⟨⟨l, B, D, cA⟩, p, e, R, s, m, args, below, meth, c, Q⟩ := K
  intro H locs la hP hS hl
  have hj2 : j < ls.length := by simpa using hn
  exact lv_istore_n o.1 o.2.1 hd hj hl.has hj2 rfl (fun la2 h2 => k H locs la2 hP hS (hl.of (v := .int v) hj2 rfl h2))
theorem g_istore (o : Ok K cc own nL d RC RS) {j : Nat} {v : Int32} (hd : decode cc pc = .ok (.istore j, 2)) (hn : Nat.blt j ls.length = true) (k : G K (pc + 2) (ls.set j (some (.int v))) st h x y) : G K pc ls (.int v :: st) h x y := by
  obtain ⟨⟨l, B, D, cA⟩, p, e, R, s, m, args, below, meth, c, Q⟩ := K
  intro H locs la hP hS hl
  have hj2 : j < ls.length := by simpa using hn
  exact lv_istore o.1 o.2.1 hd hl.has hj2 rfl (fun la2 h2 => k H locs la2 hP hS (hl.of (v := .int v) hj2 rfl h2))
theorem g_astore_n (o : Ok K cc own nL d RC RS) {i : Fin 4} (j : Nat) {v : Nat} (hd : decode cc pc = .ok (.astore_n i, 1)) (hj : (i : Nat) = j) (hn : Nat.blt j ls.length = true) (k : G K (pc + 1) (ls.set j (some (.ref v))) st h x y) : G K pc ls (.ref v :: st) h x y := by
  obtain ⟨⟨l, B, D, cA⟩, p, e, R, s, m, args, below, meth, c, Q⟩ := K
  intro H locs la hP hS hl
  have hj2 : j < ls.length := by simpa using hn
  exact lv_astore_n o.1 o.2.1 hd hj hl.has hj2 rfl (fun la2 h2 => k H locs la2 hP hS (hl.of (v := .ref v) hj2 rfl h2))
theorem g_iinc (o : Ok K cc own nL d RC RS) {j : Nat} {i : Int} {v : Int32} (hd : decode cc pc = .ok (.iinc j i, 3)) (hv : lget ls j = some (.int v)) (k : G K (pc + 3) (ls.set j (some (.int (v + Int32.ofInt i)))) st h x y) : G K pc ls st h x y := by
  obtain ⟨⟨l, B, D, cA⟩, p, e, R, s, m, args, below, meth, c, Q⟩ := K
  intro H locs la hP hS hl
  have h1 := lget_eq ls j _ hv
  have hj2 : j < ls.length := (List.getElem?_eq_some_iff.mp h1).1
  obtain ⟨kk, hkk⟩ := List.getElem?_of_mem (lvl_mem (B := B) (q := (j, .int v)).mpr ⟨_, h1, rfl⟩)
  exact lv_iinc o.1 o.2.1 hd hl.has hkk rfl hj2 rfl (fun la2 h2 => k H locs la2 hP hS (hl.of (v := .int (v + Int32.ofInt i)) hj2 rfl h2))
theorem g_iadd (o : Ok K cc own nL d RC RS) {a b : Int32} (hd : decode cc pc = .ok (.iadd, 1)) (k : G K (pc + 1) ls (.int (a + b) :: st) h x y) : G K pc ls (.int b :: .int a :: st) h x y := by
  obtain ⟨⟨l, B, D, cA⟩, p, e, R, s, m, args, below, meth, c, Q⟩ := K
  intro H locs la hP hS hl
  exact lv_iadd o.1 o.2.1 hd (k H locs la hP hS hl)
theorem g_isub (o : Ok K cc own nL d RC RS) {a b : Int32} (hd : decode cc pc = .ok (.isub, 1)) (k : G K (pc + 1) ls (.int (a - b) :: st) h x y) : G K pc ls (.int b :: .int a :: st) h x y := by
  obtain ⟨⟨l, B, D, cA⟩, p, e, R, s, m, args, below, meth, c, Q⟩ := K
  intro H locs la hP hS hl
  exact lv_isub o.1 o.2.1 hd (k H locs la hP hS hl)
theorem g_imul (o : Ok K cc own nL d RC RS) {a b : Int32} (hd : decode cc pc = .ok (.imul, 1)) (k : G K (pc + 1) ls (.int (a * b) :: st) h x y) : G K pc ls (.int b :: .int a :: st) h x y := by
  obtain ⟨⟨l, B, D, cA⟩, p, e, R, s, m, args, below, meth, c, Q⟩ := K
  intro H locs la hP hS hl
  exact lv_imul o.1 o.2.1 hd (k H locs la hP hS hl)
theorem g_iand (o : Ok K cc own nL d RC RS) {a b : Int32} (hd : decode cc pc = .ok (.iand, 1)) (k : G K (pc + 1) ls (.int (a &&& b) :: st) h x y) : G K pc ls (.int b :: .int a :: st) h x y := by
  obtain ⟨⟨l, B, D, cA⟩, p, e, R, s, m, args, below, meth, c, Q⟩ := K
  intro H locs la hP hS hl
  exact lv_iand o.1 o.2.1 hd (k H locs la hP hS hl)
theorem g_ior (o : Ok K cc own nL d RC RS) {a b : Int32} (hd : decode cc pc = .ok (.ior, 1)) (k : G K (pc + 1) ls (.int (a ||| b) :: st) h x y) : G K pc ls (.int b :: .int a :: st) h x y := by
  obtain ⟨⟨l, B, D, cA⟩, p, e, R, s, m, args, below, meth, c, Q⟩ := K
  intro H locs la hP hS hl
  exact lv_ior o.1 o.2.1 hd (k H locs la hP hS hl)
theorem g_ixor (o : Ok K cc own nL d RC RS) {a b : Int32} (hd : decode cc pc = .ok (.ixor, 1)) (k : G K (pc + 1) ls (.int (a ^^^ b) :: st) h x y) : G K pc ls (.int b :: .int a :: st) h x y := by
  obtain ⟨⟨l, B, D, cA⟩, p, e, R, s, m, args, below, meth, c, Q⟩ := K
  intro H locs la hP hS hl
  exact lv_ixor o.1 o.2.1 hd (k H locs la hP hS hl)
theorem g_ishl (o : Ok K cc own nL d RC RS) {a b : Int32} (hd : decode cc pc = .ok (.ishl, 1)) (k : G K (pc + 1) ls (.int (a <<< (b &&& 31)) :: st) h x y) : G K pc ls (.int b :: .int a :: st) h x y := by
  obtain ⟨⟨l, B, D, cA⟩, p, e, R, s, m, args, below, meth, c, Q⟩ := K
  intro H locs la hP hS hl
  exact lv_ishl o.1 o.2.1 hd (k H locs la hP hS hl)
theorem g_ishr (o : Ok K cc own nL d RC RS) {a b : Int32} (hd : decode cc pc = .ok (.ishr, 1)) (k : G K (pc + 1) ls (.int (a >>> (b &&& 31)) :: st) h x y) : G K pc ls (.int b :: .int a :: st) h x y := by
  obtain ⟨⟨l, B, D, cA⟩, p, e, R, s, m, args, below, meth, c, Q⟩ := K
  intro H locs la hP hS hl
  exact lv_ishr o.1 o.2.1 hd (k H locs la hP hS hl)
theorem g_iushr (o : Ok K cc own nL d RC RS) {a b : Int32} (hd : decode cc pc = .ok (.iushr, 1)) (k : G K (pc + 1) ls (.int (a.toUInt32 >>> (b.toUInt32 &&& Int32.toUInt32 31)).toInt32 :: st) h x y) : G K pc ls (.int b :: .int a :: st) h x y := by
  obtain ⟨⟨l, B, D, cA⟩, p, e, R, s, m, args, below, meth, c, Q⟩ := K
  intro H locs la hP hS hl
  exact lv_iushr o.1 o.2.1 hd rfl (k H locs la hP hS hl)
theorem g_idiv (o : Ok K cc own nL d RC RS) {a b : Int32} (hd : decode cc pc = .ok (.idiv, 1)) (hb : ¬ b = 0) (k : G K (pc + 1) ls (.int (a / b) :: st) h x y) : G K pc ls (.int b :: .int a :: st) h x y := by
  obtain ⟨⟨l, B, D, cA⟩, p, e, R, s, m, args, below, meth, c, Q⟩ := K
  intro H locs la hP hS hl
  exact lv_idiv o.1 o.2.1 hd hb (k H locs la hP hS hl)
theorem g_irem (o : Ok K cc own nL d RC RS) {a b : Int32} (hd : decode cc pc = .ok (.irem, 1)) (hb : ¬ b = 0) (k : G K (pc + 1) ls (.int (a - a / b * b) :: st) h x y) : G K pc ls (.int b :: .int a :: st) h x y := by
  obtain ⟨⟨l, B, D, cA⟩, p, e, R, s, m, args, below, meth, c, Q⟩ := K
  intro H locs la hP hS hl
  exact lv_irem o.1 o.2.1 hd hb (k H locs la hP hS hl)
theorem g_ladd (o : Ok K cc own nL d RC RS) {a b : Int64} (hd : decode cc pc = .ok (.ladd, 1)) (k : G K (pc + 1) ls (.long (a + b) :: st) h x y) : G K pc ls (.long b :: .long a :: st) h x y := by
  obtain ⟨⟨l, B, D, cA⟩, p, e, R, s, m, args, below, meth, c, Q⟩ := K
  intro H locs la hP hS hl
  exact lv_ladd o.1 o.2.1 hd (k H locs la hP hS hl)
theorem g_lcmp (o : Ok K cc own nL d RC RS) {a b : Int64} (hd : decode cc pc = .ok (.lcmp, 1)) (k : G K (pc + 1) ls (.int (lg_cmp a b) :: st) h x y) : G K pc ls (.long b :: .long a :: st) h x y := by
  obtain ⟨⟨l, B, D, cA⟩, p, e, R, s, m, args, below, meth, c, Q⟩ := K
  intro H locs la hP hS hl
  exact W.lcmp o.1 o.2.1 hd (k H locs la hP hS hl)
theorem g_i2c (o : Ok K cc own nL d RC RS) {a : Int32} (hd : decode cc pc = .ok (.i2c, 1)) (k : G K (pc + 1) ls (.int (a.toUInt32 % 65536).toInt32 :: st) h x y) : G K pc ls (.int a :: st) h x y := by
  obtain ⟨⟨l, B, D, cA⟩, p, e, R, s, m, args, below, meth, c, Q⟩ := K
  intro H locs la hP hS hl
  exact lv_i2c o.1 o.2.1 hd rfl (k H locs la hP hS hl)
theorem g_dup (o : Ok K cc own nL d RC RS) {v : Value} (hd : decode cc pc = .ok (.dup, 1)) (hv : v.category = 1) (k : G K (pc + 1) ls (v :: v :: st) h x y) : G K pc ls (v :: st) h x y := by
  obtain ⟨⟨l, B, D, cA⟩, p, e, R, s, m, args, below, meth, c, Q⟩ := K
  intro H locs la hP hS hl
  exact lv_dup o.1 o.2.1 hd (by rw [rvB_cat]; exact hv) (k H locs la hP hS hl)
theorem g_dup2 (o : Ok K cc own nL d RC RS) {v w : Value} (hd : decode cc pc = .ok (.dup2, 1)) (hv : v.category = 1) (hw : w.category = 1) (k : G K (pc + 1) ls (v :: w :: v :: w :: st) h x y) : G K pc ls (v :: w :: st) h x y := by
  obtain ⟨⟨l, B, D, cA⟩, p, e, R, s, m, args, below, meth, c, Q⟩ := K
  intro H locs la hP hS hl
  exact lv_dup2_11 o.1 o.2.1 hd (by rw [rvB_cat]; exact hv) (by rw [rvB_cat]; exact hw) (k H locs la hP hS hl)
theorem g_pop (o : Ok K cc own nL d RC RS) {v : Value} (hd : decode cc pc = .ok (.pop, 1)) (hv : v.category = 1) (k : G K (pc + 1) ls st h x y) : G K pc ls (v :: st) h x y := by
  obtain ⟨⟨l, B, D, cA⟩, p, e, R, s, m, args, below, meth, c, Q⟩ := K
  intro H locs la hP hS hl
  exact lv_pop o.1 o.2.1 hd (by rw [rvB_cat]; exact hv) (k H locs la hP hS hl)
theorem g_if_eq (o : Ok K cc own nL d RC RS) {a : Int32} {off : Int} (tgt : Nat) (hd : decode cc pc = .ok (.ifCond .eq off, 3)) (ht : (pc : Int) + off = (tgt : Int)) (kt : a = 0 → G K tgt ls st h x y) (kf : ¬ a = 0 → G K (pc + 3) ls st h x y) : G K pc ls (.int a :: st) h x y := by
  obtain ⟨⟨l, B, D, cA⟩, p, e, R, s, m, args, below, meth, c, Q⟩ := K
  intro H locs la hP hS hl
  exact lv_if_eq o.1 o.2.1 hd ht (fun q => kt q H locs la hP hS hl) (fun q => kf q H locs la hP hS hl)
theorem g_icmp_eq (o : Ok K cc own nL d RC RS) {a b : Int32} {off : Int} (tgt : Nat) (hd : decode cc pc = .ok (.if_icmp .eq off, 3)) (ht : (pc : Int) + off = (tgt : Int)) (kt : a = b → G K tgt ls st h x y) (kf : ¬ a = b → G K (pc + 3) ls st h x y) : G K pc ls (.int b :: .int a :: st) h x y := by
  obtain ⟨⟨l, B, D, cA⟩, p, e, R, s, m, args, below, meth, c, Q⟩ := K
  intro H locs la hP hS hl
  exact lv_icmp_eq o.1 o.2.1 hd ht (fun q => kt q H locs la hP hS hl) (fun q => kf q H locs la hP hS hl)
theorem g_if_ne (o : Ok K cc own nL d RC RS) {a : Int32} {off : Int} (tgt : Nat) (hd : decode cc pc = .ok (.ifCond .ne off, 3)) (ht : (pc : Int) + off = (tgt : Int)) (kt : ¬ a = 0 → G K tgt ls st h x y) (kf : a = 0 → G K (pc + 3) ls st h x y) : G K pc ls (.int a :: st) h x y := by
  obtain ⟨⟨l, B, D, cA⟩, p, e, R, s, m, args, below, meth, c, Q⟩ := K
  intro H locs la hP hS hl
  exact lv_if_ne o.1 o.2.1 hd ht (fun q => kt q H locs la hP hS hl) (fun q => kf q H locs la hP hS hl)
theorem g_icmp_ne (o : Ok K cc own nL d RC RS) {a b : Int32} {off : Int} (tgt : Nat) (hd : decode cc pc = .ok (.if_icmp .ne off, 3)) (ht : (pc : Int) + off = (tgt : Int)) (kt : ¬ a = b → G K tgt ls st h x y) (kf : a = b → G K (pc + 3) ls st h x y) : G K pc ls (.int b :: .int a :: st) h x y := by
  obtain ⟨⟨l, B, D, cA⟩, p, e, R, s, m, args, below, meth, c, Q⟩ := K
  intro H locs la hP hS hl
  exact lv_icmp_ne o.1 o.2.1 hd ht (fun q => kt q H locs la hP hS hl) (fun q => kf q H locs la hP hS hl)
theorem g_if_lt (o : Ok K cc own nL d RC RS) {a : Int32} {off : Int} (tgt : Nat) (hd : decode cc pc = .ok (.ifCond .lt off, 3)) (ht : (pc : Int) + off = (tgt : Int)) (kt : a < 0 → G K tgt ls st h x y) (kf : ¬ a < 0 → G K (pc + 3) ls st h x y) : G K pc ls (.int a :: st) h x y := by
  obtain ⟨⟨l, B, D, cA⟩, p, e, R, s, m, args, below, meth, c, Q⟩ := K
  intro H locs la hP hS hl
  exact lv_if_lt o.1 o.2.1 hd ht (fun q => kt q H locs la hP hS hl) (fun q => kf q H locs la hP hS hl)
theorem g_icmp_lt (o : Ok K cc own nL d RC RS) {a b : Int32} {off : Int} (tgt : Nat) (hd : decode cc pc = .ok (.if_icmp .lt off, 3)) (ht : (pc : Int) + off = (tgt : Int)) (kt : a < b → G K tgt ls st h x y) (kf : ¬ a < b → G K (pc + 3) ls st h x y) : G K pc ls (.int b :: .int a :: st) h x y := by
  obtain ⟨⟨l, B, D, cA⟩, p, e, R, s, m, args, below, meth, c, Q⟩ := K
  intro H locs la hP hS hl
  exact lv_icmp_lt o.1 o.2.1 hd ht (fun q => kt q H locs la hP hS hl) (fun q => kf q H locs la hP hS hl)
theorem g_if_ge (o : Ok K cc own nL d RC RS) {a : Int32} {off : Int} (tgt : Nat) (hd : decode cc pc = .ok (.ifCond .ge off, 3)) (ht : (pc : Int) + off = (tgt : Int)) (kt : 0 ≤ a → G K tgt ls st h x y) (kf : ¬ 0 ≤ a → G K (pc + 3) ls st h x y) : G K pc ls (.int a :: st) h x y := by
  obtain ⟨⟨l, B, D, cA⟩, p, e, R, s, m, args, below, meth, c, Q⟩ := K
  intro H locs la hP hS hl
  exact lv_if_ge o.1 o.2.1 hd ht (fun q => kt q H locs la hP hS hl) (fun q => kf q H locs la hP hS hl)
theorem g_icmp_ge (o : Ok K cc own nL d RC RS) {a b : Int32} {off : Int} (tgt : Nat) (hd : decode cc pc = .ok (.if_icmp .ge off, 3)) (ht : (pc : Int) + off = (tgt : Int)) (kt : b ≤ a → G K tgt ls st h x y) (kf : ¬ b ≤ a → G K (pc + 3) ls st h x y) : G K pc ls (.int b :: .int a :: st) h x y := by
  obtain ⟨⟨l, B, D, cA⟩, p, e, R, s, m, args, below, meth, c, Q⟩ := K
  intro H locs la hP hS hl
  exact lv_icmp_ge o.1 o.2.1 hd ht (fun q => kt q H locs la hP hS hl) (fun q => kf q H locs la hP hS hl)
theorem g_if_gt (o : Ok K cc own nL d RC RS) {a : Int32} {off : Int} (tgt : Nat) (hd : decode cc pc = .ok (.ifCond .gt off, 3)) (ht : (pc : Int) + off = (tgt : Int)) (kt : 0 < a → G K tgt ls st h x y) (kf : ¬ 0 < a → G K (pc + 3) ls st h x y) : G K pc ls (.int a :: st) h x y := by
  obtain ⟨⟨l, B, D, cA⟩, p, e, R, s, m, args, below, meth, c, Q⟩ := K
  intro H locs la hP hS hl
  exact lv_if_gt o.1 o.2.1 hd ht (fun q => kt q H locs la hP hS hl) (fun q => kf q H locs la hP hS hl)
theorem g_icmp_gt (o : Ok K cc own nL d RC RS) {a b : Int32} {off : Int} (tgt : Nat) (hd : decode cc pc = .ok (.if_icmp .gt off, 3)) (ht : (pc : Int) + off = (tgt : Int)) (kt : b < a → G K tgt ls st h x y) (kf : ¬ b < a → G K (pc + 3) ls st h x y) : G K pc ls (.int b :: .int a :: st) h x y := by
  obtain ⟨⟨l, B, D, cA⟩, p, e, R, s, m, args, below, meth, c, Q⟩ := K
  intro H locs la hP hS hl
  exact lv_icmp_gt o.1 o.2.1 hd ht (fun q => kt q H locs la hP hS hl) (fun q => kf q H locs la hP hS hl)
theorem g_if_le (o : Ok K cc own nL d RC RS) {a : Int32} {off : Int} (tgt : Nat) (hd : decode cc pc = .ok (.ifCond .le off, 3)) (ht : (pc : Int) + off = (tgt : Int)) (kt : a ≤ 0 → G K tgt ls st h x y) (kf : ¬ a ≤ 0 → G K (pc + 3) ls st h x y) : G K pc ls (.int a :: st) h x y := by
  obtain ⟨⟨l, B, D, cA⟩, p, e, R, s, m, args, below, meth, c, Q⟩ := K
  intro H locs la hP hS hl
  exact lv_if_le o.1 o.2.1 hd ht (fun q => kt q H locs la hP hS hl) (fun q => kf q H locs la hP hS hl)
theorem g_icmp_le (o : Ok K cc own nL d RC RS) {a b : Int32} {off : Int} (tgt : Nat) (hd : decode cc pc = .ok (.if_icmp .le off, 3)) (ht : (pc : Int) + off = (tgt : Int)) (kt : a ≤ b → G K tgt ls st h x y) (kf : ¬ a ≤ b → G K (pc + 3) ls st h x y) : G K pc ls (.int b :: .int a :: st) h x y := by
  obtain ⟨⟨l, B, D, cA⟩, p, e, R, s, m, args, below, meth, c, Q⟩ := K
  intro H locs la hP hS hl
  exact lv_icmp_le o.1 o.2.1 hd ht (fun q => kt q H locs la hP hS hl) (fun q => kf q H locs la hP hS hl)
theorem g_goto (o : Ok K cc own nL d RC RS) {off : Int} (tgt : Nat) (hd : decode cc pc = .ok (.goto off, 3)) (ht : (pc : Int) + off = (tgt : Int)) (k : G K tgt ls st h x y) : G K pc ls st h x y := by
  obtain ⟨⟨l, B, D, cA⟩, p, e, R, s, m, args, below, meth, c, Q⟩ := K
  intro H locs la hP hS hl
  exact lv_goto o.1 o.2.1 hd ht (k H locs la hP hS hl)
theorem g_tabO (o : Ok K cc own nL d RC RS) {dflt lo hi : Int} {offs : Array Int} {len : Nat} {a : Int32} (tgt : Nat) (hd : decode cc pc = .ok (.tableswitch dflt lo hi offs, len)) (hq : a.toInt < lo ∨ hi < a.toInt) (ht : (pc : Int) + dflt = (tgt : Int)) (k : G K tgt ls st h x y) : G K pc ls (.int a :: st) h x y := by
  obtain ⟨⟨l, B, D, cA⟩, p, e, R, s, m, args, below, meth, c, Q⟩ := K
  intro H locs la hP hS hl
  exact lv_tableOut o.1 o.2.1 hd hq ht (k H locs la hP hS hl)
theorem g_tabI (o : Ok K cc own nL d RC RS) {dflt lo hi : Int} {offs : Array Int} {len : Nat} {a : Int32} {off : Int} (tgt : Nat) (hd : decode cc pc = .ok (.tableswitch dflt lo hi offs, len)) (q1 : ¬ a.toInt < lo) (q2 : ¬ hi < a.toInt) (ho : offs[(a.toInt - lo).toNat]? = some off) (ht : (pc : Int) + off = (tgt : Int)) (k : G K tgt ls st h x y) : G K pc ls (.int a :: st) h x y := by
  obtain ⟨⟨l, B, D, cA⟩, p, e, R, s, m, args, below, meth, c, Q⟩ := K
  intro H locs la hP hS hl
  exact lv_tableIn o.1 o.2.1 hd q1 q2 ho ht (k H locs la hP hS hl)
theorem g_look (o : Ok K cc own nL d RC RS) {dflt : Int} {ps : Array (Int × Int)} {len : Nat} {a : Int32} {off : Int} (tgt : Nat) (hd : decode cc pc = .ok (.lookupswitch dflt ps, len)) (hp : (ps.toList.zip (ps.toList.drop 1)).all (fun (a, next) => a.1 < next.1) = true) (ho : Op.lookupswitch.offset ps.toList dflt a.toInt = off) (ht : (pc : Int) + off = (tgt : Int)) (k : G K tgt ls st h x y) : G K pc ls (.int a :: st) h x y := by
  obtain ⟨⟨l, B, D, cA⟩, p, e, R, s, m, args, below, meth, c, Q⟩ := K
  intro H locs la hP hS hl
  exact lv_lookup o.1 o.2.1 hd hp ho ht (k H locs la hP hS hl)
/-- the field j of the class t, linked in the class own at idx -/
def FL (own : String) (idx t j : Nat) : Prop := t < 5 ∧ j < cln t ∧ (ctb t j).1 = cnm t ∧ Cond.fieldLink own idx (cnm t) (ctb t j).2.1 (ctb t j).2.2.1 ∈ gtbl
def FI (own : String) (idx t j : Nat) : Prop := FL own idx t j ∧ (cty t j = .int ∨ cty t j = .boolean)
def FJ (own : String) (idx t j : Nat) : Prop := FL own idx t j ∧ cty t j = .long
def FR (own : String) (idx t j : Nat) : Prop := FL own idx t j ∧ ((∃ q, cty t j = .object q) ∨ ∃ q, cty t j = .array q)
theorem fvl_i {B : Nat} {M : HM} {Rf : HR} {Lg : HL} {t k j : Nat} (h : cty t j = .int ∨ cty t j = .boolean) : fvl B M Rf Lg t k j = .int (M k j) := by
  unfold fvl; rcases h with h | h <;> rw [h]
theorem fvl_j {B : Nat} {M : HM} {Rf : HR} {Lg : HL} {t k j : Nat} (h : cty t j = .long) : fvl B M Rf Lg t k j = .long (Lg k j) := by
  unfold fvl; rw [h]
theorem fvl_r {B : Nat} {M : HM} {Rf : HR} {Lg : HL} {t k j : Nat} (h : (∃ q, cty t j = .object q) ∨ ∃ q, cty t j = .array q) : fvl B M Rf Lg t k j = va_rf ((Rf k j).map (B + ·)) := by
  unfold fvl; rcases h with ⟨q, h⟩ | ⟨q, h⟩ <;> rw [h]
theorem g_get (o : Ok K cc own nL d RC RS) {idx t j a N : Nat} (f : FL own idx t j) (hs : shp a = (t, N)) (ha : a < n) {v : Value} (hv : fvl K.1.2.1 M Rf Lg t a j = rvB K.1.2.1 v) (hd : decode cc pc = .ok (.getfield idx, 3)) (k : G K (pc + 3) ls (v :: st) (n, M, Rf, Lg) x y) : G K pc ls (.ref a :: st) (n, M, Rf, Lg) x y := by
  obtain ⟨⟨l, B, D, cA⟩, p, e, R, s, m, args, below, meth, c, Q⟩ := K
  intro H locs la hP hS hl
  obtain ⟨ft, fj, fo, fw⟩ := f
  obtain ⟨cell, q1, q2, q3, q4⟩ := (wE_obj hs ft).mp (hP.2 a ha)
  obtain ⟨hS2, hfc, kC, hkC, hkind⟩ := o.2.2.2.2.2.1.1 t ft
  obtain ⟨cf, kf, fi, fd, hi, hsl⟩ := hS2 j fj
  have hst := (u_facts hfc hkC (u_lays o.2.2.2.2.1 (in_all t ft) fj) hi).1
  rw [fo] at hi
  refine W.getf o.1 o.2.1 o.2.2.2.1 (o.2.2.2.2.1 _ fw) hi hst q1 (by rw [q3]; exact fun h => by cases h) (v := rvB B v) ?_ rfl rfl hd (k H locs la hP hS hl)
  rw [hsl, q4 j fj]
  exact congrArg some hv
theorem g_getI (o : Ok K cc own nL d RC RS) {idx t j a N : Nat} (f : FI own idx t j) (hs : shp a = (t, N)) (ha : a < n) (hd : decode cc pc = .ok (.getfield idx, 3)) (k : G K (pc + 3) ls (.int (M a j) :: st) (n, M, Rf, Lg) x y) : G K pc ls (.ref a :: st) (n, M, Rf, Lg) x y := g_get o f.1 hs ha (v := .int (M a j)) (fvl_i f.2) hd k
theorem g_getJ (o : Ok K cc own nL d RC RS) {idx t j a N : Nat} (f : FJ own idx t j) (hs : shp a = (t, N)) (ha : a < n) (hd : decode cc pc = .ok (.getfield idx, 3)) (k : G K (pc + 3) ls (.long (Lg a j) :: st) (n, M, Rf, Lg) x y) : G K pc ls (.ref a :: st) (n, M, Rf, Lg) x y := g_get o f.1 hs ha (v := .long (Lg a j)) (fvl_j f.2) hd k
theorem g_getR (o : Ok K cc own nL d RC RS) {idx t j a N b : Nat} (f : FR own idx t j) (hs : shp a = (t, N)) (ha : a < n) (hr : Rf a j = some b) (hd : decode cc pc = .ok (.getfield idx, 3)) (k : G K (pc + 3) ls (.ref b :: st) (n, M, Rf, Lg) x y) : G K pc ls (.ref a :: st) (n, M, Rf, Lg) x y := g_get o f.1 hs ha (v := .ref b) (by rw [fvl_r f.2, hr]; rfl) hd k
theorem w_apart {s : State} {args : Array Value} {D : va_G} {cA : Nat → ClassId} (hts : ∀ w ∈ gtbl, w.before args s = true) (hK : KnAll s D cA) {t : Nat} (ht : t < 5) : ∀ x y, x < cln t → y < cln t → x ≠ y → (D.2 t) x ≠ (D.2 t) y := by
  intro x y hx hy hne
  obtain ⟨hS, -⟩ := hK.1 t ht
  obtain ⟨_, _, _, fa, hia, ea⟩ := hS x hx
  obtain ⟨_, _, _, fb, hib, eb⟩ := hS y hy
  rw [← ea, ← eb]
  refine u_apart (u_lays hts (in_all t ht) hx) (u_lays hts (in_all t ht) hy) hia hib ?_
  rw [(State.fieldFound?_type hia (ty_all t ht x hx)).1, (State.fieldFound?_type hib (ty_all t ht y hy)).1]
  exact nm_all t ht x hx y hy hne
theorem g_put (o : Ok K cc own nL d RC RS) {idx t j a N : Nat} (f : FL own idx t j) (hfin : (ctb t j).2.2.2 = false) (hs : shp a = (t, N)) (ha : a < n) {v : Value} (hn : narrow (cty t j) (rvB K.1.2.1 v) = rvB K.1.2.1 v) (hfit : fits (cty t j) (rvB K.1.2.1 v) = true) {M' : HM} {Rf' : HR} {Lg' : HL}
    (hM : ∀ z, z ≠ a → M' z = M z) (hR : ∀ z, z ≠ a → Rf' z = Rf z) (hL : ∀ z, z ≠ a → Lg' z = Lg z) (hrow : ∀ z, fvl K.1.2.1 M' Rf' Lg' t a z = if z = j then rvB K.1.2.1 v else fvl K.1.2.1 M Rf Lg t a z)
    (hd : decode cc pc = .ok (.putfield idx, 3)) (k : G K (pc + 3) ls st (n, M', Rf', Lg') x y) : G K pc ls (v :: .ref a :: st) (n, M, Rf, Lg) x y := by
  obtain ⟨⟨l, B, D, cA⟩, p, e, R, s, m, args, below, meth, c, Q⟩ := K
  intro H locs la hP hS hl
  obtain ⟨ft, fj, fo, fw⟩ := f
  have hap := w_apart o.2.2.2.2.1 o.2.2.2.2.2.1 ft
  obtain ⟨cell, q1, q2, q3, q4⟩ := (wE_obj hs ft).mp (hP.2 a ha)
  obtain ⟨hS2, hfc, kC, hkC, hkind⟩ := o.2.2.2.2.2.1.1 t ft
  obtain ⟨cf, kf, fi, fd, hi, hsl⟩ := hS2 j fj
  have hlay := o.2.2.2.2.1 _ (in_all t ft _ (u_in_lay fj))
  unfold u_lay at hlay
  rw [if_neg (by rw [hfin]; decide)] at hlay
  have hst := (u_facts hfc hkC (u_lays o.2.2.2.2.1 (in_all t ft) fj) hi).1
  have h6 := u_store hfc hkC hkind hlay hi (ty_all t ft j fj) hn hfit
  have hi2 := hi
  rw [fo] at hi2
  refine W.putK o.1 o.2.1 (f := fd) ⟨o.2.2.2.1, o.2.2.2.2.1 _ fw, ⟨_, _, _, hi2⟩, hst⟩ (by rw [q2]; exact h6) q1 q3 (by rw [hsl]; exact k2_hasslot (q4 j fj)) rfl rfl hd fun H2 e1 e2 e3 => ?_
  rw [hsl] at e1 ⊢
  refine k H2 _ la (hP.upd (k := a) e2 e3 hM hR hL ((wE_obj hs ft).mpr (t_OB.to ⟨_, e1, q2, q3, t_set q4 hap fj (rvB B v)⟩ (fun z _ => ?_)))) (hS.put e2 e3 (Nat.le_add_right B a)) hl
  show updV _ j (rvB B v) z = _
  rw [hrow z]
  rfl
theorem g_putF (o : Ok K cc own nL d RC RS) (hin : K.2.2.2.2.2.2.2.2.1.name = "<init>") {idx t j a N : Nat} (f : FL own idx t j) (hfin : (ctb t j).2.2.2 = true) (hcl : cnm t = own) (hs : shp a = (t, N)) (ha : a < n) {v : Value} (hn : narrow (cty t j) (rvB K.1.2.1 v) = rvB K.1.2.1 v) (hfit : fits (cty t j) (rvB K.1.2.1 v) = true) {M' : HM} {Rf' : HR} {Lg' : HL}
    (hM : ∀ z, z ≠ a → M' z = M z) (hR : ∀ z, z ≠ a → Rf' z = Rf z) (hL : ∀ z, z ≠ a → Lg' z = Lg z) (hrow : ∀ z, fvl K.1.2.1 M' Rf' Lg' t a z = if z = j then rvB K.1.2.1 v else fvl K.1.2.1 M Rf Lg t a z)
    (hd : decode cc pc = .ok (.putfield idx, 3)) (k : G K (pc + 3) ls st (n, M', Rf', Lg') x y) : G K pc ls (v :: .ref a :: st) (n, M, Rf, Lg) x y := by
  obtain ⟨⟨l, B, D, cA⟩, p, e, R, s, m, args, below, meth, c, Q⟩ := K
  intro H locs la hP hS hl
  obtain ⟨ft, fj, fo, fw⟩ := f
  have hap := w_apart o.2.2.2.2.1 o.2.2.2.2.2.1 ft
  obtain ⟨cell, q1, q2, q3, q4⟩ := (wE_obj hs ft).mp (hP.2 a ha)
  obtain ⟨hS2, hfc, kC, hkC, hkind⟩ := o.2.2.2.2.2.1.1 t ft
  obtain ⟨cf, kf, fi, fd, hi, hsl⟩ := hS2 j fj
  have hlay := o.2.2.2.2.1 _ (in_all t ft _ (u_in_lay fj))
  unfold u_lay at hlay
  rw [if_pos hfin] at hlay
  have hst := (u_facts hfc hkC (u_lays o.2.2.2.2.1 (in_all t ft) fj) hi).1
  have hcf : m.cls = cf := by
    obtain ⟨_, _, c', _, _, _, -, -, hf', -, -, -, hown2, -⟩ := Cond.laysFinal_spec hlay
    have e1 : c' = cf := by have := hi.symm.trans hf'; simp at this; exact this.1.symm
    rw [fo, hcl] at hown2
    rw [← e1]; exact Option.some.inj (o.2.2.2.1.symm.trans hown2)
  have h6 := u_fits hfc hkC hkind (Or.inr hlay) hi (ty_all t ft j fj) hn hfit
  have hi2 := hi
  rw [fo] at hi2
  refine W.putFinK o.1 o.2.1 o.2.2.2.1 (o.2.2.2.2.1 _ fw) hi2 hst hcf hin (by rw [q2]; exact h6) q1 q3 (by rw [hsl]; exact k2_hasslot (q4 j fj)) rfl rfl hd fun H2 e1 e2 e3 => ?_
  rw [hsl] at e1 ⊢
  refine k H2 _ la (hP.upd (k := a) e2 e3 hM hR hL ((wE_obj hs ft).mpr (t_OB.to ⟨_, e1, q2, q3, t_set q4 hap fj (rvB B v)⟩ (fun z _ => ?_)))) (hS.put e2 e3 (Nat.le_add_right B a)) hl
  show updV _ j (rvB B v) z = _
  rw [hrow z]
  rfl
theorem row_i {B : Nat} {M : HM} {Rf : HR} {Lg : HL} {t a j : Nat} {v : Int32} (ht : cty t j = .int ∨ cty t j = .boolean) (z : Nat) : fvl B (st2 M a j v) Rf Lg t a z = if z = j then rvB B (.int v) else fvl B M Rf Lg t a z := by
  by_cases e : z = j
  · subst e
    rw [if_pos rfl, fvl_i ht, st2_row, if_pos rfl]
    rfl
  · rw [if_neg e]
    unfold fvl
    simp only [st2_row, if_neg e]
theorem row_j {B : Nat} {M : HM} {Rf : HR} {Lg : HL} {t a j : Nat} {v : Int64} (ht : cty t j = .long) (z : Nat) : fvl B M Rf (st2 Lg a j v) t a z = if z = j then rvB B (.long v) else fvl B M Rf Lg t a z := by
  by_cases e : z = j
  · subst e
    rw [if_pos rfl, fvl_j ht, st2_row, if_pos rfl]
    rfl
  · rw [if_neg e]
    unfold fvl
    simp only [st2_row, if_neg e]
theorem row_r {B : Nat} {M : HM} {Rf : HR} {Lg : HL} {t a j b : Nat} (ht : (∃ q, cty t j = .object q) ∨ ∃ q, cty t j = .array q) (z : Nat) : fvl B M (st2 Rf a j (some b)) Lg t a z = if z = j then rvB B (.ref b) else fvl B M Rf Lg t a z := by
  by_cases e : z = j
  · subst e
    rw [if_pos rfl, fvl_r ht, st2_row, if_pos rfl]
    rfl
  · rw [if_neg e]
    unfold fvl
    simp only [st2_row, if_neg e]
theorem g_putI (o : Ok K cc own nL d RC RS) {idx t j a N : Nat} {v : Int32} (f : FI own idx t j) (hfin : (ctb t j).2.2.2 = false) (hs : shp a = (t, N)) (ha : a < n) (hn : narrow (cty t j) (.int v) = .int v) (hfit : fits (cty t j) (.int v) = true) (hd : decode cc pc = .ok (.putfield idx, 3)) (k : G K (pc + 3) ls st (n, st2 M a j v, Rf, Lg) x y) : G K pc ls (.int v :: .ref a :: st) (n, M, Rf, Lg) x y :=
  g_put o f.1 hfin hs ha hn hfit (fun _ hz => st2_ne M j v hz) (fun _ _ => rfl) (fun _ _ => rfl) (row_i f.2) hd k
theorem g_putJ (o : Ok K cc own nL d RC RS) {idx t j a N : Nat} {v : Int64} (f : FJ own idx t j) (hfin : (ctb t j).2.2.2 = false) (hs : shp a = (t, N)) (ha : a < n) (hd : decode cc pc = .ok (.putfield idx, 3)) (k : G K (pc + 3) ls st (n, M, Rf, st2 Lg a j v) x y) : G K pc ls (.long v :: .ref a :: st) (n, M, Rf, Lg) x y :=
  g_put o f.1 hfin hs ha (v := .long v) (by rw [f.2]; rfl) (by rw [f.2]; rfl) (fun _ _ => rfl) (fun _ _ => rfl) (fun _ hz => st2_ne Lg j v hz) (row_j f.2) hd k
theorem fits_r {B b : Nat} {ty : FieldType} (h : (∃ q, ty = .object q) ∨ ∃ q, ty = .array q) : narrow ty (rvB B (.ref b)) = rvB B (.ref b) ∧ fits ty (rvB B (.ref b)) = true := by
  rcases h with ⟨q, rfl⟩ | ⟨q, rfl⟩ <;> exact ⟨rfl, rfl⟩
theorem g_putR (o : Ok K cc own nL d RC RS) {idx t j a N b : Nat} (f : FR own idx t j) (hfin : (ctb t j).2.2.2 = false) (hs : shp a = (t, N)) (ha : a < n) (hd : decode cc pc = .ok (.putfield idx, 3)) (k : G K (pc + 3) ls st (n, M, st2 Rf a j (some b), Lg) x y) : G K pc ls (.ref b :: .ref a :: st) (n, M, Rf, Lg) x y :=
  g_put o f.1 hfin hs ha (fits_r f.2).1 (fits_r f.2).2 (fun _ _ => rfl) (fun _ hz => st2_ne Rf j (some b) hz) (fun _ _ => rfl) (row_r f.2) hd k
theorem g_putRF (o : Ok K cc own nL d RC RS) (hin : K.2.2.2.2.2.2.2.2.1.name = "<init>") {idx t j a N b : Nat} (f : FR own idx t j) (hfin : (ctb t j).2.2.2 = true) (hcl : cnm t = own) (hs : shp a = (t, N)) (ha : a < n) (hd : decode cc pc = .ok (.putfield idx, 3)) (k : G K (pc + 3) ls st (n, M, st2 Rf a j (some b), Lg) x y) : G K pc ls (.ref b :: .ref a :: st) (n, M, Rf, Lg) x y :=
  g_putF o hin f.1 hfin hcl hs ha (fits_r f.2).1 (fits_r f.2).2 (fun _ _ => rfl) (fun _ hz => st2_ne Rf j (some b) hz) (fun _ _ => rfl) (row_r f.2) hd k
theorem lay_small : ∀ q ∈ lay, q.2 < 1000 := by decide
theorem shp_small (a : Nat) : (shp a).2 < 1000 := by
  unfold shp
  rw [List.getD_eq_getElem?_getD]
  cases h : lay[a]? with
  | none => decide
  | some q => exact lay_small q (List.mem_of_getElem? h)
theorem ix_in {a t N k : Nat} {i : Int32} (hs : shp a = (t, N)) (hi : i = nI k) (hk : k < N) : vp_in i N ∧ i.toNatClampNeg = k := by
  have h1 : N < 1000 := by have := shp_small a; rw [hs] at this; exact this
  subst hi
  exact ⟨vp_in_nI hk (by omega), nI_clamp (by omega)⟩
theorem g_iald (o : Ok K cc own nL d RC RS) {a N : Nat} {i : Int32} (j : Nat) (hs : shp a = (6, N)) (ha : a < n) (hi : i = nI j) (hj : j < N) (hd : decode cc pc = .ok (.iaload, 1)) (k : G K (pc + 1) ls (.int (M a j) :: st) (n, M, Rf, Lg) x y) : G K pc ls (.int i :: .ref a :: st) (n, M, Rf, Lg) x y := by
  obtain ⟨⟨l, B, D, cA⟩, p, e, R, s, m, args, below, meth, c, Q⟩ := K
  intro H locs la hP hS hl
  obtain ⟨hin, hcl⟩ := ix_in hs hi hj
  have hc := (wE_int hs (by decide) (by decide)).mp (hP.2 a ha)
  have hA := (o.2.2.2.2.2.1.2.1 6 (by decide) (by decide)).1 N (fun j => .int (M a j))
  exact W.iald (v := .int (M a j)) o.1 o.2.1 hc hA (fun q => by cases q) (by rw [arrV_size]; exact hin) (by rw [hcl, arrV_read _ _ hj]) rfl rfl hd (k H locs la hP hS hl)
theorem g_cald (o : Ok K cc own nL d RC RS) {a N : Nat} {i : Int32} (j : Nat) (hs : shp a = (5, N)) (ha : a < n) (hi : i = nI j) (hj : j < N) (hd : decode cc pc = .ok (.caload, 1)) (k : G K (pc + 1) ls (.int (M a j) :: st) (n, M, Rf, Lg) x y) : G K pc ls (.int i :: .ref a :: st) (n, M, Rf, Lg) x y := by
  obtain ⟨⟨l, B, D, cA⟩, p, e, R, s, m, args, below, meth, c, Q⟩ := K
  intro H locs la hP hS hl
  obtain ⟨hin, hcl⟩ := ix_in hs hi hj
  have hc := (wE_int hs (by decide) (by decide)).mp (hP.2 a ha)
  have hA := (o.2.2.2.2.2.1.2.1 5 (by decide) (by decide)).1 N (fun j => .int (M a j))
  exact W.cald (v := .int (M a j)) o.1 o.2.1 hc hA (fun q => by cases q) (by rw [arrV_size]; exact hin) (by rw [hcl, arrV_read _ _ hj]) rfl rfl hd (k H locs la hP hS hl)
theorem g_zald (o : Ok K cc own nL d RC RS) {a N : Nat} {i : Int32} (j : Nat) (hs : shp a = (7, N)) (ha : a < n) (hi : i = nI j) (hj : j < N) (hd : decode cc pc = .ok (.baload, 1)) (k : G K (pc + 1) ls (.int (M a j) :: st) (n, M, Rf, Lg) x y) : G K pc ls (.int i :: .ref a :: st) (n, M, Rf, Lg) x y := by
  obtain ⟨⟨l, B, D, cA⟩, p, e, R, s, m, args, below, meth, c, Q⟩ := K
  intro H locs la hP hS hl
  obtain ⟨hin, hcl⟩ := ix_in hs hi hj
  have hc := (wE_int hs (by decide) (by decide)).mp (hP.2 a ha)
  have hA := (o.2.2.2.2.2.1.2.1 7 (by decide) (by decide)).1 N (fun j => .int (M a j))
  exact W.zald (v := .int (M a j)) o.1 o.2.1 hc hA (fun q => by cases q) (by rw [arrV_size]; exact hin) (by rw [hcl, arrV_read _ _ hj]) rfl rfl hd (k H locs la hP hS hl)
theorem g_aald (o : Ok K cc own nL d RC RS) {t a N b : Nat} {i : Int32} (j : Nat) (hs : shp a = (t, N)) (ht : t = 8 ∨ t = 9) (ha : a < n) (hi : i = nI j) (hj : j < N) (hr : Rf a j = some b) (hd : decode cc pc = .ok (.aaload, 1)) (k : G K (pc + 1) ls (.ref b :: st) (n, M, Rf, Lg) x y) : G K pc ls (.int i :: .ref a :: st) (n, M, Rf, Lg) x y := by
  obtain ⟨⟨l, B, D, cA⟩, p, e, R, s, m, args, below, meth, c, Q⟩ := K
  intro H locs la hP hS hl
  obtain ⟨hin, hcl⟩ := ix_in hs hi hj
  have hc : H[B + a]? = some (arrV (cA t) N (fun j => va_rf ((Rf a j).map (B + ·)))) := (wE_ref hs (by omega)).mp (hP.2 a ha)
  have hA := (o.2.2.2.2.2.1.2.1 t (by omega) (by omega)).1 N (fun j => va_rf ((Rf a j).map (B + ·)))
  refine W.aald (v := rvB B (.ref b)) (ty := aty t) o.1 o.2.1 hc hA (by rcases ht with rfl | rfl <;> rfl) (fun q => by cases q) (by rw [arrV_size]; exact hin) (by rw [hcl, arrV_read _ _ hj, hr]; rfl) rfl rfl hd (k H locs la hP hS hl)
theorem g_iast (o : Ok K cc own nL d RC RS) {a N : Nat} {i v : Int32} (j : Nat) (hs : shp a = (6, N)) (ha : a < n) (hi : i = nI j) (hj : j < N) (hd : decode cc pc = .ok (.iastore, 1)) (k : G K (pc + 1) ls st (n, st2 M a j v, Rf, Lg) x y) : G K pc ls (.int v :: .int i :: .ref a :: st) (n, M, Rf, Lg) x y := by
  obtain ⟨⟨l, B, D, cA⟩, p, e, R, s, m, args, below, meth, c, Q⟩ := K
  intro H locs la hP hS hl
  obtain ⟨hin, hcl⟩ := ix_in hs hi hj
  have hc := (wE_int hs (by decide) (by decide)).mp (hP.2 a ha)
  have hA := (o.2.2.2.2.2.1.2.1 6 (by decide) (by decide)).1 N (fun j => .int (M a j))
  refine W.iast o.1 o.2.1 hc hA (fun q => by cases q) (by rw [arrV_size]; exact hin) rfl rfl hd fun H2 e z oq => ?_
  refine k H2 _ la (hP.upd (k := a) z oq (fun _ hz => st2_ne M j v hz) (fun _ _ => rfl) (fun _ _ => rfl) ((wE_int hs (by decide) (by decide)).mpr ?_)) (hS.put z oq (Nat.le_add_right B a)) hl
  rw [e, hcl, arrV_store]
  refine congrArg some (congrArg (arrV _ N) (funext fun q => ?_))
  by_cases hq : q = j
  · subst hq; simp [updV, st2_row]
  · simp [updV, st2_row, hq]
theorem g_zast (o : Ok K cc own nL d RC RS) {a N : Nat} {i v : Int32} (j : Nat) (hs : shp a = (7, N)) (ha : a < n) (hi : i = nI j) (hj : j < N) (hv : narrow .boolean (.int v) = .int v) (hd : decode cc pc = .ok (.bastore, 1)) (k : G K (pc + 1) ls st (n, st2 M a j v, Rf, Lg) x y) : G K pc ls (.int v :: .int i :: .ref a :: st) (n, M, Rf, Lg) x y := by
  obtain ⟨⟨l, B, D, cA⟩, p, e, R, s, m, args, below, meth, c, Q⟩ := K
  intro H locs la hP hS hl
  obtain ⟨hin, hcl⟩ := ix_in hs hi hj
  have hc := (wE_int hs (by decide) (by decide)).mp (hP.2 a ha)
  have hA := (o.2.2.2.2.2.1.2.1 7 (by decide) (by decide)).1 N (fun j => .int (M a j))
  refine W.zast o.1 o.2.1 hc hA (fun q => by cases q) (by rw [arrV_size]; exact hin) rfl rfl hd fun H2 e z oq => ?_
  rw [hv] at e
  refine k H2 _ la (hP.upd (k := a) z oq (fun _ hz => st2_ne M j v hz) (fun _ _ => rfl) (fun _ _ => rfl) ((wE_int hs (by decide) (by decide)).mpr ?_)) (hS.put z oq (Nat.le_add_right B a)) hl
  rw [e, hcl, arrV_store]
  refine congrArg some (congrArg (arrV _ N) (funext fun q => ?_))
  by_cases hq : q = j
  · subst hq; simp [updV, st2_row]
  · simp [updV, st2_row, hq]
theorem g_cast (o : Ok K cc own nL d RC RS) {a N : Nat} {i v : Int32} (j : Nat) (hs : shp a = (5, N)) (ha : a < n) (hi : i = nI j) (hj : j < N) (hv : narrow .char (.int v) = .int v) (hd : decode cc pc = .ok (.castore, 1)) (k : G K (pc + 1) ls st (n, st2 M a j v, Rf, Lg) x y) : G K pc ls (.int v :: .int i :: .ref a :: st) (n, M, Rf, Lg) x y := by
  obtain ⟨⟨l, B, D, cA⟩, p, e, R, s, m, args, below, meth, c, Q⟩ := K
  intro H locs la hP hS hl
  obtain ⟨hin, hcl⟩ := ix_in hs hi hj
  have hc := (wE_int hs (by decide) (by decide)).mp (hP.2 a ha)
  have hA := (o.2.2.2.2.2.1.2.1 5 (by decide) (by decide)).1 N (fun j => .int (M a j))
  refine W.cast o.1 o.2.1 hc hA (fun q => by cases q) (by rw [arrV_size]; exact hin) rfl rfl hd fun H2 e z oq => ?_
  rw [hv] at e
  refine k H2 _ la (hP.upd (k := a) z oq (fun _ hz => st2_ne M j v hz) (fun _ _ => rfl) (fun _ _ => rfl) ((wE_int hs (by decide) (by decide)).mpr ?_)) (hS.put z oq (Nat.le_add_right B a)) hl
  rw [e, hcl, arrV_store]
  refine congrArg some (congrArg (arrV _ N) (funext fun q => ?_))
  by_cases hq : q = j
  · subst hq; simp [updV, st2_row]
  · simp [updV, st2_row, hq]
theorem g_aast (o : Ok K cc own nL d RC RS) {a N b N2 : Nat} {i : Int32} (j : Nat) (hs : shp a = (8, N)) (ha : a < n) (hi : i = nI j) (hj : j < N) (hb : shp b = (1, N2)) (hbn : b < n) (hd : decode cc pc = .ok (.aastore, 1)) (k : G K (pc + 1) ls st (n, M, st2 Rf a j (some b), Lg) x y) : G K pc ls (.ref b :: .int i :: .ref a :: st) (n, M, Rf, Lg) x y := by
  obtain ⟨⟨l, B, D, cA⟩, p, e, R, s, m, args, below, meth, c, Q⟩ := K
  intro H locs la hP hS hl
  obtain ⟨hin, hcl⟩ := ix_in hs hi hj
  have hc := (wE_ref hs (by decide)).mp (hP.2 a ha)
  obtain ⟨cellV, g1, g2, g3, -⟩ := (wE_obj hb (by decide)).mp (hP.2 b hbn)
  have hcls := (o.2.2.2.2.2.1.1 1 (by decide)).2
  obtain ⟨kA, comp, k1, k2, k3, -⟩ := (o.2.2.2.2.2.1.2.1 8 (by decide) (by decide)).2
  have hcomp : comp = D.1 1 := Option.some.inj (k3.symm.trans hcls.1)
  subst hcomp
  obtain ⟨kC, hkC, -⟩ := hcls.2
  refine W.aast o.1 o.2.1 hc (fun q h => by cases h) (fun h => by cases h) k1 k2 rfl hkC ⟨fun q => hin (Or.inl q), by rw [arrV_size, hcl]; exact hj⟩ g1 (fun q h => by rw [g3] at h; cases h) (by rw [g2]; exact hkC) (by rw [g2]; exact va_assign hcls) rfl rfl hd fun H2 e z oq => ?_
  refine k H2 _ la (hP.upd (k := a) z oq (fun _ _ => rfl) (fun _ hz => st2_ne Rf j (some b) hz) (fun _ _ => rfl) ((wE_ref hs (by decide)).mpr ?_)) (hS.put z oq (Nat.le_add_right B a)) hl
  rw [e, hcl, arrV_store]
  refine congrArg some (congrArg (arrV _ N) (funext fun q => ?_))
  by_cases hq : q = j
  · subst hq; simp [updV, st2_row, va_rf]
  · simp [updV, st2_row, hq]
end RULES
end
section
section RULES2
variable {K : KT} {cc : ByteArray} {own : String} {nL d RC RS : Nat} {pc : Nat} {ls : List (Option Value)} {st : List Value} {h : HP} {n : Nat} {M : HM} {Rf : HR} {Lg : HL} {x y : Nat}
/-! ends -/
theorem g_iret (o : Ok K cc own nL d RC RS) {ty : FieldType} {v w : Int32} {h2 : HP} (f : Fin1 K (some ty) (some (.int w)) h2 x y) (hd : decode cc pc = .ok (.ireturn, 1)) (hn : narrow ty (.int v) = .int v) (hv : v = w) (hh : h = h2) : G K pc ls [.int v] h x y := by
  subst hv; subst hh
  obtain ⟨⟨l, B, D, cA⟩, p, e, R, s, m, args, below, meth, c, Q⟩ := K
  intro H locs la hP hS hl
  obtain ⟨f1, f2, f3⟩ := f
  rw [f1]
  exact W.zret o.1 o.2.1 f2 hn (fun t ht hW => ⟨rfl, by rw [ht]; exact hP, hS.F ht⟩) hS.2.2 hd f3
theorem g_lret (o : Ok K cc own nL d RC RS) {v w : Int64} {h2 : HP} (f : Fin1 K (some .long) (some (.long w)) h2 x y) (hd : decode cc pc = .ok (.lreturn, 1)) (hv : v = w) (hh : h = h2) : G K pc ls [.long v] h x y := by
  subst hv; subst hh
  obtain ⟨⟨l, B, D, cA⟩, p, e, R, s, m, args, below, meth, c, Q⟩ := K
  intro H locs la hP hS hl
  obtain ⟨f1, f2, f3⟩ := f
  rw [f1]
  exact W.lret o.1 o.2.1 f2 (fun t ht hW => ⟨rfl, by rw [ht]; exact hP, hS.F ht⟩) hS.2.2 hd f3
theorem g_vret (o : Ok K cc own nL d RC RS) {h2 : HP} (f : Fin1 K none none h2 x y) (hd : decode cc pc = .ok (.return_, 1)) (hh : h = h2) : G K pc ls [] h x y := by
  subst hh
  obtain ⟨⟨l, B, D, cA⟩, p, e, R, s, m, args, below, meth, c, Q⟩ := K
  intro H locs la hP hS hl
  obtain ⟨f1, f2, f3⟩ := f
  rw [f1]
  exact W.vret o.1 o.2.1 f2 (fun t ht hW => ⟨rfl, by rw [ht]; exact hP, hS.F ht⟩) hS.2.2 hd f3
theorem g_widen {x2 y2 : Nat} (h1 : x ≤ x2) (h2 : y ≤ y2) (k : G K pc ls st h x2 y2) : G K pc ls st h x y := by
  obtain ⟨⟨l, B, D, cA⟩, p, e, R, s, m, args, below, meth, c, Q⟩ := K
  intro H locs la hP hS hl
  exact W.widen h1 h2 (k H locs la hP hS hl)
theorem g_eq {pc2 : Nat} {ls2 : List (Option Value)} {st2' : List Value} {h2 : HP} (e0 : pc = pc2) (e1 : ls = ls2) (e2 : st = st2') (e3 : h = h2) (k : G K pc2 ls2 st2' h2 x y) : G K pc ls st h x y := by
  subst e0; subst e1; subst e2; subst e3; exact k
/-- a method by its body -/
theorem Ret.of {Λ : PL} {μ : MT} {As : List Value} {v : Option Value} {h' : HP} {mc ms : Nat} (hy : plainName μ.1.cls = true) (hn : Nat.ble As.length μ.2.2.1 = true) (hc : As.all (fun v => v.category == 1) = true)
    (body : ∀ κ : KR, Ok (Λ, κ) μ.2.1 μ.1.cls μ.2.2.1 d mc ms → Fin1 (Λ, κ) μ.2.2.2 v h' mc ms → κ.2.2.2.2.2.2.2.1.name = μ.1.name → G (Λ, κ) 0 (As.map some ++ List.replicate (μ.2.2.1 - As.length) none) [] h 0 0) : Ret Λ d μ As h v h' mc ms := by
  obtain ⟨l, B, D, cA⟩ := Λ
  obtain ⟨yn, code, nl, ret⟩ := μ
  refine Met.ofW (cc := code) (maxL := nl) (ret := ret) hy rfl ?_
  intro p e s m args below meth c s₁ Bd hml hv
  obtain ⟨rfl, hP, hK⟩ := hv
  have hts := atoms_spec (ws := .code yn code nl ret :: gtbl) Bd.pre
  have hn2 : As.length ≤ nl := Nat.le_of_ble_eq_true hn
  have hc2 : ∀ v ∈ As, v.category = 1 := fun v hv => by
    have := List.all_eq_true.mp hc v hv
    simpa using this
  rw [lg_entry_eq]
  exact body (p, e, _, s, m, _, below, meth, c, _) ⟨Bd.exec, Bd.bytes, hml, findClass_of_methodNamed Bd.named, fun w hw => hts w (List.mem_cons_of_mem _ hw), hK, by rw [hP.1]; exact Nat.le_add_right _ _, Nat.le_refl _, Nat.le_refl _, rfl, rfl⟩ ⟨rfl, Bd.returns, Bd.notSynchronized⟩ (name_of_methodNamed Bd.named Bd.method).1 s.heap [] _ hP va_S.rf (lsH.entry B As nl hn2 hc2)
/-! calls -/
theorem calls_on {p : Program} {l : Launch} {e : Env} {R : Room} {s : State} {m : MethodId} {args : Array Value} {below : List Frame} {meth : Method} {c : Code} {H : Heap} {locs : List Loc} {cells slots mc ms : Nat} {Q : State → Prop} {la : Array Slot} {rest st0 : List Value} {a : Array Value} {B : Nat} {D : va_G} {cA : Nat → ClassId} {v : Option Value} {h' : HP} (hS : va_S (fun q => B ≤ q) s.heap H locs)
    (hr : va_Run p l e R s m args below meth c H locs cells slots mc ms (F0 m pc la st0) rest (RQ B D cA v h' a) (fun q => B ≤ q))
    (kk : ∀ (H1 : Heap) (locs1 : List Loc), PW B D cA h' H1 → va_S (fun q => B ≤ q) s.heap H1 locs1 → W p l e R s m args below meth c H1 locs1 (cells + mc) (slots + ms) Q (F0 m (pc + 3) la ((v.map (rvB B)).toList ++ rest))) : W p l e R s m args below meth c H locs cells slots Q (F0 m pc la st0) := by
  intro T hT X
  obtain ⟨v9, st₀, t, T', L, h0, X', hL, e1, e2, ⟨hv, hp, hz, hk⟩, stp⟩ := hr T hT X
  cases hv
  rw [h0] at hz hk
  obtain ⟨t2, a1, b1⟩ := kk T'.heap (locs ++ L) (by rw [e1]; exact hp)
    ⟨Nat.le_trans hS.1 (by rw [e1]; exact hz), fun q h1 h2 => by rw [e1, hk q (Nat.lt_of_lt_of_le h1 hS.1) h2]; exact hS.2.1 q h1 h2, fun q hq => by
      rcases List.mem_append.mp hq with h | h
      · exact hS.2.2 q h
      · exact hL q h⟩ T' rfl X'
  exact ⟨t2, stp t2 a1, b1⟩
/-- what the tables say of a method that is called: its code, its class, how many arguments -/
def CM (μ : MT) (k : Nat) : Prop := Cond.code μ.1 μ.2.1 μ.2.2.1 μ.2.2.2 ∈ gtbl ∧ Cond.initialized μ.1.cls ∈ gtbl ∧ (μ.1.cls ≠ "java/lang/invoke/MethodHandle" ∧ μ.1.cls ≠ "java/lang/invoke/VarHandle" ∧ (parseMethodDescriptor μ.1.desc).map (fun d => d.parameters.length) = some k) ∧ μ.2.2.1 ≤ 21
def LV (own : String) (idx : Nat) (μ : MT) (t : Nat) : Prop := t < 5 ∧ cnm t = μ.1.cls ∧ Cond.methodLink own idx μ.1 ∈ gtbl ∧ Cond.instanceMethod μ.1 ∈ gtbl ∧ Cond.selects μ.1.cls μ.1 μ.1 ∈ gtbl
def LSt (own : String) (idx : Nat) (μ : MT) : Prop := Cond.methodLink own idx μ.1 ∈ gtbl ∧ Cond.static μ.1 ∈ gtbl
def LSN (own : String) (idx : Nat) (μ : MT) : Prop := Cond.methodLinkNest own idx μ.1 RX3 ∈ nestW ∧ Cond.static μ.1 ∈ gtbl
def LI (own : String) (idx : Nat) (μ : MT) : Prop := μ.1.name = "<init>" ∧ Cond.methodLink own idx μ.1 ∈ gtbl ∧ Cond.instanceMethod μ.1 ∈ gtbl
def LIN (own : String) (idx : Nat) (μ : MT) : Prop := μ.1.name = "<init>" ∧ Cond.methodLinkNest own idx μ.1 RX3 ∈ nestW ∧ Cond.instanceMethod μ.1 ∈ gtbl
theorem blind {B : Nat} {D : va_G} {cA : Nat → ClassId} {As : List Value} : FrameBlind (va_Pc As (fun U => PW B D cA h U.heap ∧ KnAll U D cA)) := fun a U g mk q => ⟨q.1, q.2.1, KnAll.same (u := U) (U := U.calling g mk a) rfl q.2.2⟩
theorem cb_of {R : Room} {s : State} {args : Array Value} {idx k dd mc ms : Nat} {μ : MT} (hts : ∀ w ∈ gtbl, w.before args s = true) (cm : CM μ k) (hl : Cond.methodLink own idx μ.1 ∈ gtbl) (hf : dd + 1 ≤ R.frames) (hlo : 40 * (dd + 1) ≤ R.locals) : CallB R s args own idx μ.1 μ.2.1 μ.2.2.1 μ.2.2.2 (.code μ.1 μ.2.1 μ.2.2.1 μ.2.2.2 :: gtbl) { frames := dd, cells := mc, slots := ms, locals := 40 * dd } mc ms k := by
  obtain ⟨c1, c2, c3, c4⟩ := cm
  exact callB_of (Ts := .code μ.1 μ.2.1 μ.2.2.1 μ.2.2.2 :: gtbl) k (fun w hw => hts w (gt_in c1 hw).1) (gt_good c1) rfl rfl rfl (hts _ c2) (hts _ hl) c3 ⟨hf, by show 8 + (μ.2.2.1 + 11) + 40 * dd ≤ R.locals; omega⟩
theorem cn_of {R : Room} {s : State} {args : Array Value} {idx k dd mc ms : Nat} {μ : MT} (hts : ∀ w ∈ gtbl, w.before args s = true) (cm : CM μ k) (hl : va_Nw (.methodLinkNest own idx μ.1 RX3) s) (hf : dd + 1 ≤ R.frames) (hlo : 40 * (dd + 1) ≤ R.locals) : va_CN R s args own idx μ.1 RX3 μ.2.1 μ.2.2.1 μ.2.2.2 (.code μ.1 μ.2.1 μ.2.2.1 μ.2.2.2 :: gtbl) { frames := dd, cells := mc, slots := ms, locals := 40 * dd } mc ms k := by
  obtain ⟨c1, c2, c3, c4⟩ := cm
  exact va_cnB (Ts := .code μ.1 μ.2.1 μ.2.2.1 μ.2.2.2 :: gtbl) k (fun w hw => hts w (gt_in c1 hw).1) (gt_good c1) rfl rfl rfl hl (hts _ c2) c3 ⟨hf, by show 8 + (μ.2.2.1 + 11) + 40 * dd ≤ R.locals; omega⟩
theorem cat_sum {B : Nat} : ((st.map (rvB B)).map fun v => v.category) = st.map fun v => v.category := by
  rw [List.map_map]; exact List.map_congr_left (fun v _ => rvB_cat B v)
theorem room_st {B : Nat} {m : MethodId} {la : Array Slot} {st0 : List Value} (hst : Nat.ble (st.map fun v => v.category).sum 8 = true) : 2 * (F0 m pc la st0).monitorRoom + ((st.map (rvB B)).map fun v => v.category).sum ≤ 8 := by
  rw [cat_sum]; exact lv_room (Nat.le_of_ble_eq_true hst)
theorem g_callV (o : Ok K cc own nL (d + 1) RC RS) {idx k t a N : Nat} {μ : MT} {As : List Value} {v : Option Value} {h' : HP} {mc ms : Nat} (lk : LV own idx μ t) (cm : CM μ k) (hM : Ret K.1 d μ (.ref a :: As) h v h' mc ms) (hk : As.length = k) (hs : shp a = (t, N)) (ha : a < h.1) (hls : ls.length = nL) (hst : Nat.ble (st.map fun v => v.category).sum 8 = true) (hxy : x + mc ≤ RC ∧ y + ms ≤ RS) (hd : decode cc pc = .ok (.invokevirtual idx, 3)) (k : G K (pc + 3) ls (v.toList ++ st) h' (x + mc) (y + ms)) : G K pc ls (As.reverse ++ .ref a :: st) h x y := by
  obtain ⟨⟨l, B, D, cA⟩, p, e, R, s, m, args, below, meth, c, Q⟩ := K
  intro H locs la hP hS hl
  obtain ⟨o1, o2, o3, o4, o5, o6, o7, o8, o9, o10, o11⟩ := o
  obtain ⟨k1, k2, k3, k4, k5⟩ := lk
  obtain ⟨cell, q1, q2, q3, -⟩ := (wE_obj hs k1).mp (hP.2 a ha)
  have hcl := (o6.1 t k1).2.1
  refine calls_on (mc := mc) (ms := ms) (v := v) (h' := h') (rest := st.map (rvB B)) hS (va_runV (As := As.map (rvB B)) (rest := st.map (rvB B)) (C := cnm t) (b := B + a) ⟨o1, o2, o3, o4, o5⟩ hM ⟨cb_of o5 cm k3 o8 o9, o5 _ k4, by rw [k2]; exact o5 _ k5⟩ ⟨blind, ⟨cell, q1, by rw [q3]; rfl, by rw [q2]; exact hcl⟩, fun U hU hW => ⟨rfl, by rw [hU]; exact hP, o6.warm hW⟩⟩ rfl (by simpa using hk) (by show la.size = nL; rw [hl.1, hls]) (by simp [rvB]) (room_st hst) hd ⟨by rw [o10]; exact hxy.1, by rw [o11]; exact hxy.2⟩) (fun H1 locs1 g1 g2 => ?_)
  have := k H1 locs1 la g1 g2 hl
  rw [List.map_append] at this
  cases v <;> exact this
theorem g_callS (o : Ok K cc own nL (d + 1) RC RS) {idx k : Nat} {μ : MT} {As : List Value} {v : Option Value} {h' : HP} {mc ms : Nat} (lk : LSt own idx μ) (cm : CM μ k) (hM : Ret K.1 d μ As h v h' mc ms) (hk : As.length = k) (hls : ls.length = nL) (hst : Nat.ble (st.map fun v => v.category).sum 8 = true) (hxy : x + mc ≤ RC ∧ y + ms ≤ RS) (hd : decode cc pc = .ok (.invokestatic idx, 3)) (k : G K (pc + 3) ls (v.toList ++ st) h' (x + mc) (y + ms)) : G K pc ls (As.reverse ++ st) h x y := by
  obtain ⟨⟨l, B, D, cA⟩, p, e, R, s, m, args, below, meth, c, Q⟩ := K
  intro H locs la hP hS hl
  obtain ⟨o1, o2, o3, o4, o5, o6, o7, o8, o9, o10, o11⟩ := o
  refine calls_on (mc := mc) (ms := ms) (v := v) (h' := h') (rest := st.map (rvB B)) hS (va_runS (As := As.map (rvB B)) (rest := st.map (rvB B)) ⟨o1, o2, o3, o4, o5⟩ hM ⟨cb_of o5 cm lk.1 o8 o9, o5 _ lk.2⟩ ⟨blind, fun U hU hW => ⟨rfl, by rw [hU]; exact hP, o6.warm hW⟩⟩ rfl (by simpa using hk) (by show la.size = nL; rw [hl.1, hls]) (by simp) (room_st hst) hd ⟨by rw [o10]; exact hxy.1, by rw [o11]; exact hxy.2⟩) (fun H1 locs1 g1 g2 => ?_)
  have := k H1 locs1 la g1 g2 hl
  rw [List.map_append] at this
  cases v <;> exact this
theorem g_callSN (o : Ok K cc own nL (d + 1) RC RS) {idx k : Nat} {μ : MT} {As : List Value} {v : Option Value} {h' : HP} {mc ms : Nat} (lk : LSN own idx μ) (cm : CM μ k) (hM : Ret K.1 d μ As h v h' mc ms) (hk : As.length = k) (hls : ls.length = nL) (hst : Nat.ble (st.map fun v => v.category).sum 8 = true) (hxy : x + mc ≤ RC ∧ y + ms ≤ RS) (hd : decode cc pc = .ok (.invokestatic idx, 3)) (k : G K (pc + 3) ls (v.toList ++ st) h' (x + mc) (y + ms)) : G K pc ls (As.reverse ++ st) h x y := by
  obtain ⟨⟨l, B, D, cA⟩, p, e, R, s, m, args, below, meth, c, Q⟩ := K
  intro H locs la hP hS hl
  obtain ⟨o1, o2, o3, o4, o5, o6, o7, o8, o9, o10, o11⟩ := o
  refine calls_on (mc := mc) (ms := ms) (v := v) (h' := h') (rest := st.map (rvB B)) hS (va_runSN (host := RX3) (As := As.map (rvB B)) (rest := st.map (rvB B)) ⟨o1, o2, o3, o4, o5⟩ hM ⟨cn_of o5 cm (o6.2.2.1 _ lk.1) o8 o9, o5 _ lk.2, trivial⟩ ⟨blind, fun U hU hW => ⟨rfl, by rw [hU]; exact hP, o6.warm hW⟩⟩ rfl (by simpa using hk) (by show la.size = nL; rw [hl.1, hls]) (by simp) (room_st hst) hd ⟨by rw [o10]; exact hxy.1, by rw [o11]; exact hxy.2⟩) (fun H1 locs1 g1 g2 => ?_)
  have := k H1 locs1 la g1 g2 hl
  rw [List.map_append] at this
  cases v <;> exact this
theorem g_callI (o : Ok K cc own nL (d + 1) RC RS) {idx k a : Nat} {μ : MT} (hret : μ.2.2.2 = none) {As : List Value} {h' : HP} {mc ms : Nat} (lk : LI own idx μ) (cm : CM μ k) (hM : Ret K.1 d μ (.ref a :: As) h none h' mc ms) (hk : As.length = k) (hls : ls.length = nL) (hst : Nat.ble (st.map fun v => v.category).sum 8 = true) (hxy : x + mc ≤ RC ∧ y + ms ≤ RS) (hd : decode cc pc = .ok (.invokespecial idx, 3)) (k : G K (pc + 3) ls st h' (x + mc) (y + ms)) : G K pc ls (As.reverse ++ .ref a :: st) h x y := by
  obtain ⟨⟨l, B, D, cA⟩, p, e, R, s, m, args, below, meth, c, Q⟩ := K
  obtain ⟨yn, code, nl, ret⟩ := μ
  cases hret
  intro H locs la hP hS hl
  obtain ⟨o1, o2, o3, o4, o5, o6, o7, o8, o9, o10, o11⟩ := o
  refine calls_on (mc := mc) (ms := ms) (v := none) (h' := h') (rest := st.map (rvB B)) hS (va_runI (As := As.map (rvB B)) (b := B + a) (rest := st.map (rvB B)) ⟨o1, o2, o3, o4, o5⟩ hM ⟨cb_of o5 cm lk.2.1 o8 o9, lk.1, o5 _ lk.2.2⟩ ⟨blind, fun U hU hW => ⟨rfl, by rw [hU]; exact hP, o6.warm hW⟩⟩ rfl (by simpa using hk) (by show la.size = nL; rw [hl.1, hls]) (by simp [rvB]) (room_st hst) hd ⟨by rw [o10]; exact hxy.1, by rw [o11]; exact hxy.2⟩) (fun H1 locs1 g1 g2 => ?_)
  exact k H1 locs1 la g1 g2 hl
theorem g_callIN (o : Ok K cc own nL (d + 1) RC RS) {idx k a : Nat} {μ : MT} (hret : μ.2.2.2 = none) {As : List Value} {h' : HP} {mc ms : Nat} (lk : LIN own idx μ) (cm : CM μ k) (hM : Ret K.1 d μ (.ref a :: As) h none h' mc ms) (hk : As.length = k) (hls : ls.length = nL) (hst : Nat.ble (st.map fun v => v.category).sum 8 = true) (hxy : x + mc ≤ RC ∧ y + ms ≤ RS) (hd : decode cc pc = .ok (.invokespecial idx, 3)) (k : G K (pc + 3) ls st h' (x + mc) (y + ms)) : G K pc ls (As.reverse ++ .ref a :: st) h x y := by
  obtain ⟨⟨l, B, D, cA⟩, p, e, R, s, m, args, below, meth, c, Q⟩ := K
  obtain ⟨yn, code, nl, ret⟩ := μ
  cases hret
  intro H locs la hP hS hl
  obtain ⟨o1, o2, o3, o4, o5, o6, o7, o8, o9, o10, o11⟩ := o
  refine calls_on (mc := mc) (ms := ms) (v := none) (h' := h') (rest := st.map (rvB B)) hS (va_runIN (host := RX3) (As := As.map (rvB B)) (b := B + a) (rest := st.map (rvB B)) ⟨o1, o2, o3, o4, o5⟩ hM ⟨cn_of o5 cm (o6.2.2.1 _ lk.2.1) o8 o9, lk.1, o5 _ lk.2.2⟩ ⟨blind, fun U hU hW => ⟨rfl, by rw [hU]; exact hP, o6.warm hW⟩⟩ rfl (by simpa using hk) (by show la.size = nL; rw [hl.1, hls]) (by simp [rvB]) (room_st hst) hd ⟨by rw [o10]; exact hxy.1, by rw [o11]; exact hxy.2⟩) (fun H1 locs1 g1 g2 => ?_)
  exact k H1 locs1 la g1 g2 hl
theorem g_max (o : Ok K cc own nL (d + 1) RC RS) {idx : Nat} {a b : Int32} (lk : Cond.methodLink own idx Lib.Math.max.name ∈ gtbl) (hst : Nat.ble (st.map fun v => v.category).sum 8 = true) (hls : ls.length = nL) (hxy : x ≤ RC ∧ y ≤ RS) (hd : decode cc pc = .ok (.invokestatic idx, 3)) (k : G K (pc + 3) ls (.int (if a < b then b else a) :: st) h x y) (w1 : Cond.static Lib.Math.max.name ∈ gtbl) (w2 : Cond.initialized "java/lang/Math" ∈ gtbl) (w3 : Cond.code Lib.Math.max.name Lib.Math.max.code 2 (some .int) ∈ gtbl) : G K pc ls (.int b :: .int a :: st) h x y := by
  obtain ⟨⟨l, B, D, cA⟩, p, e, R, s, m, args, below, meth, c, Q⟩ := K
  intro H locs la hP hS hl
  obtain ⟨o1, o2, o3, o4, o5, o6, o7, o8, o9, o10, o11⟩ := o
  have hs8 := Nat.le_of_ble_eq_true hst
  refine va_mmax o1 o2 (by rw [o3, hl.1, hls]) o4 (o5 _ lk) (o5 _ w1) (o5 _ w2) (o5 _ w3) (by omega) (by rw [cat_sum]; omega) (by rw [o10]; exact hxy.1) (by rw [o11]; exact hxy.2) hd (k H locs la hP hS hl)
theorem g_min (o : Ok K cc own nL (d + 1) RC RS) {idx : Nat} {a b : Int32} (lk : Cond.methodLink own idx Lib.Math.min.name ∈ gtbl) (hst : Nat.ble (st.map fun v => v.category).sum 8 = true) (hls : ls.length = nL) (hxy : x ≤ RC ∧ y ≤ RS) (hd : decode cc pc = .ok (.invokestatic idx, 3)) (k : G K (pc + 3) ls (.int (if b < a then b else a) :: st) h x y) (w1 : Cond.static Lib.Math.min.name ∈ gtbl) (w2 : Cond.initialized "java/lang/Math" ∈ gtbl) (w3 : Cond.code Lib.Math.min.name Lib.Math.min.code 2 (some .int) ∈ gtbl) : G K pc ls (.int b :: .int a :: st) h x y := by
  obtain ⟨⟨l, B, D, cA⟩, p, e, R, s, m, args, below, meth, c, Q⟩ := K
  intro H locs la hP hS hl
  obtain ⟨o1, o2, o3, o4, o5, o6, o7, o8, o9, o10, o11⟩ := o
  have hs8 := Nat.le_of_ble_eq_true hst
  refine va_mmin o1 o2 (by rw [o3, hl.1, hls]) o4 (o5 _ lk) (o5 _ w1) (o5 _ w2) (o5 _ w3) (by omega) (by rw [cat_sum]; omega) (by rw [o10]; exact hxy.1) (by rw [o11]; exact hxy.2) hd (k H locs la hP hS hl)
end RULES2
end
section
section RULES3
variable {K : KT} {cc : ByteArray} {own : String} {nL d RC RS : Nat} {pc : Nat} {ls : List (Option Value)} {st : List Value} {h : HP} {n : Nat} {M : HM} {Rf : HR} {Lg : HL} {x y : Nat}
theorem g_objInit (o : Ok K cc own nL (d + 1) RC RS) {idx a : Nat} (lk : Cond.methodLink own idx Lib.objectInit ∈ gtbl) (hls : ls.length = nL) (hst : Nat.ble (st.map fun v => v.category).sum 8 = true) (hd : decode cc pc = .ok (.invokespecial idx, 3)) (k : G K (pc + 3) ls st h x y) (w1 : Cond.instanceMethod Lib.objectInit ∈ gtbl) (w2 : Cond.code Lib.objectInit ⟨#[0xb1]⟩ 1 none ∈ gtbl) : G K pc ls (.ref a :: st) h x y := by
  obtain ⟨⟨l, B, D, cA⟩, p, e, R, s, m, args, below, meth, c, Q⟩ := K
  intro H locs la hP hS hl
  obtain ⟨o1, o2, o3, o4, o5, o6, o7, o8, o9, o10, o11⟩ := o
  have h8 := room_st (B := B) (m := m) (pc := pc) (la := la) (st0 := (Value.ref a :: st).map (rvB B)) hst
  exact W.objInit (a := B + a) (rest := st.map (rvB B)) o1 o2 o4 (o5 _ lk) (o5 _ w1) (o5 _ w2) rfl (by rw [o3]; exact hl.1.trans hls) rfl hd (by omega) (by omega) (k H locs la hP hS hl)
theorem t_zero {t : Nat} (ht : t < 5) {B a : Nat} (hM : M a = fun _ => 0) (hR : Rf a = fun _ => none) (hL : Lg a = fun _ => 0) (j : Nat) (hj : j < cln t) : defaultValue (cty t j) = fvl B M Rf Lg t a j := by
  have key : ∀ j, j < cln t → cty t j = .int ∨ cty t j = .boolean ∨ cty t j = .long ∨ (∃ q, cty t j = .object q) ∨ ∃ q, cty t j = .array q := by
    have hall : ∀ t, t < 5 → (List.range (cln t)).all (fun j => match cty t j with | .int => true | .boolean => true | .long => true | .object _ => true | .array _ => true | _ => false) = true := by decide
    intro j hj
    have := List.all_eq_true.mp (hall t ht) j (List.mem_range.mpr hj)
    cases e : cty t j <;> rw [e] at this <;> simp at this <;> simp
  rcases key j hj with e | e | e | ⟨q, e⟩ | ⟨q, e⟩
  · rw [fvl_i (Or.inl e), e, hM]; rfl
  · rw [fvl_i (Or.inr e), e, hM]; rfl
  · rw [fvl_j e, e, hL]; rfl
  · rw [fvl_r (Or.inl ⟨q, e⟩), e, hR]; rfl
  · rw [fvl_r (Or.inr ⟨q, e⟩), e, hR]; rfl
theorem S_grow {A : Nat → Prop} {H0 H H1 : Heap} {locs : List Loc} (hS : va_S A H0 H locs) (z : H1.size = H.size + 1) (oq : ∀ q : Nat, q < H.size → H1[q]? = H[q]?) : va_S A H0 H1 locs :=
  ⟨Nat.le_trans hS.1 (by omega), fun q h1 h2 => (oq q (Nat.lt_of_lt_of_le h1 hS.1)).trans (hS.2.1 q h1 h2), hS.2.2⟩
theorem g_new (o : Ok K cc own nL d RC RS) {idx t : Nat} (ht : t < 5) (lk : Cond.classLink own idx (cnm t) ∈ gtbl) (w1 : Cond.instantiable (cnm t) (cln t) ∈ gtbl) (w2 : Cond.initialized (cnm t) ∈ gtbl) (hs : shp n = (t, cln t)) (hM : M n = fun _ => 0) (hR : Rf n = fun _ => none) (hL : Lg n = fun _ => 0) (hxy : x + 1 ≤ RC ∧ y + cln t ≤ RS) (hd : decode cc pc = .ok (.new idx, 3)) (k : G K (pc + 3) ls (.ref n :: st) (n + 1, M, Rf, Lg) (x + 1) (y + cln t)) : G K pc ls st (n, M, Rf, Lg) x y := by
  obtain ⟨⟨l, B, D, cA⟩, p, e, R, s, m, args, below, meth, c, Q⟩ := K
  intro H locs la hP hS hl
  obtain ⟨o1, o2, o3, o4, o5, o6, o7, o8, o9, o10, o11⟩ := o
  have hKn := o6.1 t ht
  have hsz : H.size = B + n := hP.1
  refine W.newcK (cC := D.1 t) o1 o2 o4 (o5 _ lk) (o5 _ w1) (o5 _ w2) rfl hd (by rw [o10]; exact hxy.1) (by rw [o11]; exact hxy.2) hKn.2.1 hsz fun H1 kC hkC e1 z1 o12 => ?_
  rw [← hsz] at z1 o12
  exact k H1 locs la (hP.grow z1 o12 ((wE_obj hs ht).mpr ((u_born (cty t) o5 (in_all t ht) hKn hkC e1 (ty_all t ht)).to (fun j hj => t_zero ht hM hR hL j hj)))) (S_grow hS z1 o12) hl
theorem g_newa (o : Ok K cc own nL d RC RS) {at' : ArrayType} {t N : Nat} {i : Int32} (ht : newarray.typeOf at' = aty t) (h5 : 5 ≤ t) (h8 : t < 8) (w1 : Cond.arrayClass (aty t) ∈ gtbl) (hs : shp n = (t, N)) (hi : i = nI N) (hM : M n = fun _ => 0) (hxy : x + 1 ≤ RC ∧ y + N ≤ RS) (hd : decode cc pc = .ok (.newarray at', 2)) (k : G K (pc + 2) ls (.ref n :: st) (n + 1, M, Rf, Lg) (x + 1) (y + N)) : G K pc ls (.int i :: st) (n, M, Rf, Lg) x y := by
  obtain ⟨⟨l, B, D, cA⟩, p, e, R, s, m, args, below, meth, c, Q⟩ := K
  intro H locs la hP hS hl
  obtain ⟨o1, o2, o3, o4, o5, o6, o7, o8, o9, o10, o11⟩ := o
  have hN : N < 1000 := by have := shp_small n; rw [hs] at this; exact this
  have hsz : H.size = B + n := hP.1
  have ht3 : t = 5 ∨ t = 6 ∨ t = 7 := by omega
  have hcb : componentBytes (aty t) ≤ 4 := by rcases ht3 with rfl | rfl | rfl <;> decide
  have hdv : defaultValue (aty t) = .int 0 := by rcases ht3 with rfl | rfl | rfl <;> rfl
  have hra := (o6.2.1 t h5 (by omega)).2
  have hfc : s.vm.findClass ("[" ++ (aty t).toString) = some (cA t) := by rcases ht3 with rfl | rfl | rfl <;> exact hra
  have hcl : i.toNatClampNeg = N := by rw [hi]; exact nI_clamp (by omega)
  have hneg : ¬ i < 0 := by rw [hi]; exact nI_pos (by omega)
  have hbb : N * componentBytes (newarray.typeOf at') ≤ 536870912 := by rw [ht]; exact Nat.le_trans (Nat.mul_le_mul (Nat.le_of_lt hN) hcb) (by decide)
  refine va_newaK (N := N) o1 o2 (by rw [ht]; exact o5 _ w1) rfl hd rfl hneg hcl hbb (by rw [o10]; exact hxy.1) (by rw [o11]; exact hxy.2) hsz fun H1 cA2 e1 z1 o12 hAr hNm => ?_
  rw [ht] at e1 hNm
  have hc : cA2 = cA t := Option.some.inj (hNm.symm.trans hfc)
  subst hc
  rw [hdv] at e1
  rw [← hsz] at z1 o12
  exact k H1 locs la (hP.grow z1 o12 ((wE_int hs h5 h8).mpr (by rw [e1, hM]))) (S_grow hS z1 o12) hl
theorem g_anew (o : Ok K cc own nL d RC RS) {idx N : Nat} {i : Int32} (lk : Cond.classLink own idx RX1 ∈ gtbl) (hs : shp n = (8, N)) (hi : i = nI N) (hR : Rf n = fun _ => none) (hxy : x + 1 ≤ RC ∧ y + N ≤ RS) (hd : decode cc pc = .ok (.anewarray idx, 3)) (k : G K (pc + 3) ls (.ref n :: st) (n + 1, M, Rf, Lg) (x + 1) (y + N)) : G K pc ls (.int i :: st) (n, M, Rf, Lg) x y := by
  obtain ⟨⟨l, B, D, cA⟩, p, e, R, s, m, args, below, meth, c, Q⟩ := K
  intro H locs la hP hS hl
  obtain ⟨o1, o2, o3, o4, o5, o6, o7, o8, o9, o10, o11⟩ := o
  have hN : N < 1000 := by have := shp_small n; rw [hs] at this; exact this
  have hsz : H.size = B + n := hP.1
  have hcl : i.toNatClampNeg = N := by rw [hi]; exact nI_clamp (by omega)
  obtain ⟨kA0, comp0, r1, r2, r3, r4⟩ := (o6.2.1 8 (by decide) (by decide)).2
  refine W.anew o1 o2 o4 (o5 _ lk) (va_AO.use o6.2.2.2.1) rfl hd rfl (by rw [hi]; exact nI_pos (by omega)) (by rw [hcl]; omega) (by rw [o10]; exact hxy.1) (by rw [o11, hcl]; exact hxy.2) fun cA2 kA comp f1 f2 f3 f4 => ?_
  have hc : cA2 = cA 8 := Option.some.inj (f1.symm.trans r4)
  subst hc
  rw [hcl]
  generalize hH1 : H.push ({ cls := cA 8, slots := Array.replicate N .null, vm := .none } : Cell) = H1
  have z1 : H1.size = H.size + 1 := by rw [← hH1, Array.size_push]
  have e1 : H1[H.size]? = some (arrV (cA 8) N (fun _ => .null)) := by rw [← hH1, Array.getElem?_push_size, ← arrV_new]
  have o12 : ∀ q : Nat, q < H.size → H1[q]? = H[q]? := fun q hq => by rw [← hH1, Array.getElem?_push, if_neg (Nat.ne_of_lt hq)]
  have := k H1 locs la (hP.grow z1 o12 ((wE_ref hs (by decide)).mpr (by rw [← hsz, e1, hR]; rfl))) (S_grow hS z1 o12) hl
  rw [hsz]
  exact this
theorem g_copy (o : Ok K cc own nL (d + 2) RC RS) {idx a b N1 N2 : Nat} (lk : Cond.methodLink own idx arraycopyName ∈ gtbl) (w1 : Cond.native arraycopyName ∈ gtbl) (w2 : Cond.static arraycopyName ∈ gtbl) (w3 : Cond.initialized "java/lang/System" ∈ gtbl) (ha : shp a = (6, N1)) (hb : shp b = (6, N2)) (han : a < n) (hbn : b < n) {i : Int32} (k : Nat) (hi : i = nI k) (h1 : k ≤ N1) (h2 : k ≤ N2) (hls : ls.length = nL) (hst : Nat.ble (st.map fun v => v.category).sum 8 = true) (hd : decode cc pc = .ok (.invokestatic idx, 3)) (kk : G K (pc + 3) ls st (n, fun z j => if z = b ∧ j < k then M a j else M z j, Rf, Lg) x y) : G K pc ls (.int i :: .int 0 :: .ref b :: .int 0 :: .ref a :: st) (n, M, Rf, Lg) x y := by
  obtain ⟨⟨l, B, D, cA⟩, p, e, R, s, m, args, below, meth, c, Q⟩ := K
  intro H locs la hP hS hl
  obtain ⟨o1, o2, o3, o4, o5, o6, o7, o8, o9, o10, o11⟩ := o
  have hN1 : N1 < 1000 := by have := shp_small a; rw [ha] at this; exact this
  have hcl : i.toNatClampNeg = k := by rw [hi]; exact nI_clamp (by omega)
  have hpos : ¬ i < 0 := by rw [hi]; exact nI_pos (by omega)
  have hti : i.toInt = (k : Int) := by rw [hi]; exact nI_toInt (by omega)
  have hc0 : H[B + a]? = some (arrV (cA 6) N1 (fun j => .int (M a j))) := (wE_int ha (by decide) (by decide)).mp (hP.2 a han)
  have hc1 : H[B + b]? = some (arrV (cA 6) N2 (fun j => .int (M b j))) := (wE_int hb (by decide) (by decide)).mp (hP.2 b hbn)
  obtain ⟨-, k0, hk0, cm0, hkk0⟩ := (o6.2.1 6 (by decide) (by decide)).1 N1 (fun j => .int (M a j))
  obtain ⟨-, k1, hk1, cm1, hkk1⟩ := (o6.2.1 6 (by decide) (by decide)).1 N2 (fun j => .int (M b j))
  have hs8 := Nat.le_of_ble_eq_true hst
  have hnw : nativeFrameWords "java/lang/System" "arraycopy" 5 + 11 ≤ 60 := by decide
  intro T hT X
  obtain ⟨vm', X', step⟩ := X.arraycopy o1 o4 (o5 _ lk) (o5 _ w1) (o5 _ w2) (o5 _ w3) (src := B + a) (dst := B + b) (cs := arrV (cA 6) N1 (fun j => .int (M a j))) (cd := arrV (cA 6) N2 (fun j => .int (M b j))) (srcPos := 0) (destPos := 0) (n := i) (by rw [hT]; exact hc0) (by rw [hT]; exact hc1)
    (fun _ h => by cases h) (fun _ h => by cases h) (fun h => by cases h) (fun h => by cases h) hk0 hk1 hkk0 hkk1 (by decide) (by decide) (by decide) hpos
    (by rw [hti, arrV_size]; show ¬ (0 : Int) + _ > _; omega)
    (by rw [hti, arrV_size]; show ¬ (0 : Int) + _ > _; omega)
    (fun vm₁ _ q hq => by
      rw [hcl] at hq
      have e : (arrV (cA 6) N1 (fun j => .int (M a j))).slots.getD ((0 : Int32).toNatClampNeg + q) .null = .int (M a q) := by
        rw [Array.getD_eq_getD_getElem?, show (0 : Int32).toNatClampNeg + q = q from Nat.zero_add q, arrV_read _ _ (by omega)]
        rfl
      refine ⟨?_, ?_⟩
      · rw [e]; rfl
      · rw [e]; exact trivial)
    (g := F0 m pc la (.int i :: .int 0 :: .ref (B + b) :: .int 0 :: .ref (B + a) :: st.map (rvB B))) rfl (by rw [o3]; exact hl.1.trans hls) (rest := st.map (rvB B)) rfl (by rw [o2]; exact hd) (by omega) (by rw [cat_sum]; show 2 * 0 + _ + _ ≤ _; exact Nat.le_trans (Nat.add_le_add (Nat.add_le_add_left hs8 _) hnw) (by omega))
  have e1 : copied (vp_cell (cA 6) (N1, .inl (M a))) (vp_cell (cA 6) (N2, .inl (M b))) 0 0 i = vp_cell (cA 6) (N2, .inl (va_cpy (M a) (M b) (0 : Int32).toNatClampNeg (0 : Int32).toNatClampNeg i.toNatClampNeg)) := va_copied (fun z => .int z) (cA 6) (cA 6) (M a) (M b) (by rw [hcl]; show 0 + k ≤ N1; omega)
  rw [vp_cell_i, vp_cell_i, vp_cell_i] at e1
  rw [e1] at X' step
  have hl9 : B + b < H.size := (Array.getElem?_eq_some_iff.mp hc1).1
  have hheap : ((T.setVm vm').setCell (B + b) (arrV (cA 6) N2 (fun j => .int (va_cpy (M a) (M b) (0 : Int32).toNatClampNeg (0 : Int32).toNatClampNeg i.toNatClampNeg j)))).heap = H.setIfInBounds (B + b) (arrV (cA 6) N2 (fun j => .int (va_cpy (M a) (M b) (0 : Int32).toNatClampNeg (0 : Int32).toNatClampNeg i.toNatClampNeg j))) := by rw [← hT]; rfl
  have oq : ∀ q : Nat, q ≠ B + b → (H.setIfInBounds (B + b) (arrV (cA 6) N2 (fun j => .int (va_cpy (M a) (M b) (0 : Int32).toNatClampNeg (0 : Int32).toNatClampNeg i.toNatClampNeg j))))[q]? = H[q]? := fun q hq => by simp [Array.getElem?_setIfInBounds, Ne.symm hq]
  obtain ⟨t, a1, b1⟩ := kk _ _ la (hP.upd (k := b) (by simp) oq (fun z hz => by funext j; simp [hz]) (fun _ _ => rfl) (fun _ _ => rfl) ((wE_int hb (by decide) (by decide)).mpr (by
      simp only [Array.getElem?_setIfInBounds, hl9, if_true]
      refine congrArg some (congrArg (arrV _ N2) (funext fun j => ?_))
      rw [hcl]
      simp only [va_cpy, true_and]
      by_cases hj : j < k
      · rw [if_pos hj, if_pos ⟨Nat.zero_le _, by show j < 0 + k; omega⟩]
        show Value.int (M a (0 + (j - 0))) = _
        simp
      · rw [if_neg hj, if_neg (fun q => hj (by have : j < 0 + k := q.2; omega))]))) ⟨by simp; exact hS.1, fun q g1 g2 => by
      rw [oq q (fun e => g2 (by rw [e]; exact Nat.le_add_right B b))]
      exact hS.2.1 q g1 g2, fun q hq => by
      rcases List.mem_append.mp hq with h | h
      · exact hS.2.2 q h
      · obtain ⟨z, -, hz⟩ := List.mem_map.mp h
        rw [← hz]
        exact Nat.le_add_right B b⟩ hl _ hheap X'
  exact ⟨t, step t a1, b1⟩
/-! the law's own script -/
theorem g_sld (o : Ok K cc own nL d RC RS) {b L : Nat} {xs : Nat → Int32} (hX : va_X b L xs K.2.2.2.2.1 K.2.2.2.2.1.heap) (hbl : b < K.2.2.2.2.1.heap.size) (hbA : b < K.1.2.1) {i : Int32} (j : Nat) (hi : i = nI j) (hj : j < L) (hL : L < 1000) (hd : decode cc pc = .ok (.iaload, 1)) (k : G K (pc + 1) ls (.int (xs j) :: st) h x y) : G K pc ls (.int i :: .retAddr b :: st) h x y := by
  obtain ⟨⟨l, B, D, cA⟩, p, e, R, s, m, args, below, meth, c, Q⟩ := K
  intro H locs la hP hS hl
  have hcl : i.toNatClampNeg = j := by rw [hi]; exact nI_clamp (by omega)
  refine va_sld o.1 o.2.1 hX hbl (Nat.not_le.mpr hbA) hS (by rw [hi]; exact vp_in_nI hj (by omega)) hd ?_
  rw [hcl]
  exact k H locs la hP hS hl
theorem g_slen (o : Ok K cc own nL d RC RS) {b L : Nat} {xs : Nat → Int32} (hX : va_X b L xs K.2.2.2.2.1 K.2.2.2.2.1.heap) (hbl : b < K.2.2.2.2.1.heap.size) (hbA : b < K.1.2.1) (hd : decode cc pc = .ok (.arraylength, 1)) (k : G K (pc + 1) ls (.int (nI L) :: st) h x y) : G K pc ls (.retAddr b :: st) h x y := by
  obtain ⟨⟨l, B, D, cA⟩, p, e, R, s, m, args, below, meth, c, Q⟩ := K
  intro H locs la hP hS hl
  exact va_slen o.1 o.2.1 hX hbl (Nat.not_le.mpr hbA) hS hd (k H locs la hP hS hl)
end RULES3
end
section
abbrev R_law : String := "SleepCallsLaw"
abbrev mX3_init : MT := (yX3_init, cX3_init, 2, none)
theorem cmX3_init : CM mX3_init 0 := ⟨gt_t 13 (by decide +kernel) (by decide +kernel), gt_t 1 (by decide +kernel) (by decide +kernel), by decide +kernel, by decide⟩
abbrev mX2_init : MT := (yX2_init, cX2_init, 1, none)
theorem cmX2_init : CM mX2_init 0 := ⟨gt_t 21 (by decide +kernel) (by decide +kernel), gt_t 2 (by decide +kernel) (by decide +kernel), by decide +kernel, by decide⟩
abbrev mX0_init : MT := (yX0_init, cX0_init, 1, none)
theorem cmX0_init : CM mX0_init 0 := ⟨gt_t 53 (by decide +kernel) (by decide +kernel), gt_t 3 (by decide +kernel) (by decide +kernel), by decide +kernel, by decide⟩
abbrev mX1_init : MT := (yX1_init, cX1_init, 1, none)
theorem cmX1_init : CM mX1_init 0 := ⟨gt_t 126 (by decide +kernel) (by decide +kernel), gt_t 4 (by decide +kernel) (by decide +kernel), by decide +kernel, by decide⟩
abbrev mX2_readInto : MT := (yX2_readInto, cX2_readInto, 3, some .int)
theorem cmX2_readInto : CM mX2_readInto 1 := ⟨gt_t 162 (by decide +kernel) (by decide +kernel), gt_t 2 (by decide +kernel) (by decide +kernel), by decide +kernel, by decide⟩
abbrev mX0_restart : MT := (yX0_restart, cX0_restart, 2, none)
theorem cmX0_restart : CM mX0_restart 0 := ⟨gt_t 166 (by decide +kernel) (by decide +kernel), gt_t 3 (by decide +kernel) (by decide +kernel), by decide +kernel, by decide⟩
abbrev mX2_nextToken : MT := (yX2_nextToken, cX2_nextToken, 2, none)
theorem cmX2_nextToken : CM mX2_nextToken 0 := ⟨gt_t 170 (by decide +kernel) (by decide +kernel), gt_t 2 (by decide +kernel) (by decide +kernel), by decide +kernel, by decide⟩
abbrev mX2_isDigit : MT := (yX2_isDigit, cX2_isDigit, 1, some .boolean)
theorem cmX2_isDigit : CM mX2_isDigit 1 := ⟨gt_t 173 (by decide +kernel) (by decide +kernel), gt_t 2 (by decide +kernel) (by decide +kernel), by decide +kernel, by decide⟩
abbrev mX2_readNumber : MT := (yX2_readNumber, cX2_readNumber, 2, none)
theorem cmX2_readNumber : CM mX2_readNumber 0 := ⟨gt_t 177 (by decide +kernel) (by decide +kernel), gt_t 2 (by decide +kernel) (by decide +kernel), by decide +kernel, by decide⟩
abbrev mX0_settle : MT := (yX0_settle, cX0_settle, 4, none)
theorem cmX0_settle : CM mX0_settle 0 := ⟨gt_t 184 (by decide +kernel) (by decide +kernel), gt_t 3 (by decide +kernel) (by decide +kernel), by decide +kernel, by decide⟩
abbrev mX3_has : MT := (yX3_has, cX3_has, 2, some .boolean)
theorem cmX3_has : CM mX3_has 2 := ⟨gt_t 187 (by decide +kernel) (by decide +kernel), gt_t 1 (by decide +kernel) (by decide +kernel), by decide +kernel, by decide⟩
abbrev mX0_noisesOf : MT := (yX0_noisesOf, cX0_noisesOf, 4, some .int)
theorem cmX0_noisesOf : CM mX0_noisesOf 1 := ⟨gt_t 191 (by decide +kernel) (by decide +kernel), gt_t 3 (by decide +kernel) (by decide +kernel), by decide +kernel, by decide⟩
abbrev mX0_wokenByAll : MT := (yX0_wokenByAll, cX0_wokenByAll, 4, some .int)
theorem cmX0_wokenByAll : CM mX0_wokenByAll 1 := ⟨gt_t 195 (by decide +kernel) (by decide +kernel), gt_t 3 (by decide +kernel) (by decide +kernel), by decide +kernel, by decide⟩
abbrev mX0_wokenBy : MT := (yX0_wokenBy, cX0_wokenBy, 5, some .int)
theorem cmX0_wokenBy : CM mX0_wokenBy 2 := ⟨gt_t 199 (by decide +kernel) (by decide +kernel), gt_t 3 (by decide +kernel) (by decide +kernel), by decide +kernel, by decide⟩
abbrev mX2_readItem : MT := (yX2_readItem, cX2_readItem, 6, some .boolean)
theorem cmX2_readItem : CM mX2_readItem 2 := ⟨gt_t 203 (by decide +kernel) (by decide +kernel), gt_t 2 (by decide +kernel) (by decide +kernel), by decide +kernel, by decide⟩
abbrev mX0_mayComeNext : MT := (yX0_mayComeNext, cX0_mayComeNext, 3, some .boolean)
theorem cmX0_mayComeNext : CM mX0_mayComeNext 2 := ⟨gt_t 207 (by decide +kernel) (by decide +kernel), gt_t 3 (by decide +kernel) (by decide +kernel), by decide +kernel, by decide⟩
abbrev mX2_howManyNumbers : MT := (yX2_howManyNumbers, cX2_howManyNumbers, 1, some .int)
theorem cmX2_howManyNumbers : CM mX2_howManyNumbers 1 := ⟨gt_t 210 (by decide +kernel) (by decide +kernel), gt_t 2 (by decide +kernel) (by decide +kernel), by decide +kernel, by decide⟩
abbrev mX2_mayStand : MT := (yX2_mayStand, cX2_mayStand, 4, some .boolean)
theorem cmX2_mayStand : CM mX2_mayStand 3 := ⟨gt_t 214 (by decide +kernel) (by decide +kernel), gt_t 2 (by decide +kernel) (by decide +kernel), by decide +kernel, by decide⟩
abbrev mX2_isWithin : MT := (yX2_isWithin, cX2_isWithin, 3, some .boolean)
theorem cmX2_isWithin : CM mX2_isWithin 2 := ⟨gt_t 218 (by decide +kernel) (by decide +kernel), gt_t 2 (by decide +kernel) (by decide +kernel), by decide +kernel, by decide⟩
abbrev mX2_mayStandForCitizen : MT := (yX2_mayStandForCitizen, cX2_mayStandForCitizen, 2, some .boolean)
theorem cmX2_mayStandForCitizen : CM mX2_mayStandForCitizen 1 := ⟨gt_t 222 (by decide +kernel) (by decide +kernel), gt_t 2 (by decide +kernel) (by decide +kernel), by decide +kernel, by decide⟩
abbrev mX0_tell : MT := (yX0_tell, cX0_tell, 3, none)
theorem cmX0_tell : CM mX0_tell 2 := ⟨gt_t 226 (by decide +kernel) (by decide +kernel), gt_t 3 (by decide +kernel) (by decide +kernel), by decide +kernel, by decide⟩
abbrev mX0_tellCitizen : MT := (yX0_tellCitizen, cX0_tellCitizen, 2, none)
theorem cmX0_tellCitizen : CM mX0_tellCitizen 1 := ⟨gt_t 230 (by decide +kernel) (by decide +kernel), gt_t 3 (by decide +kernel) (by decide +kernel), by decide +kernel, by decide⟩
abbrev mX0_tellNoise : MT := (yX0_tellNoise, cX0_tellNoise, 2, none)
theorem cmX0_tellNoise : CM mX0_tellNoise 1 := ⟨gt_t 234 (by decide +kernel) (by decide +kernel), gt_t 3 (by decide +kernel) (by decide +kernel), by decide +kernel, by decide⟩
abbrev mX1_begin : MT := (yX1_begin, cX1_begin, 3, none)
theorem cmX1_begin : CM mX1_begin 1 := ⟨gt_t 238 (by decide +kernel) (by decide +kernel), gt_t 4 (by decide +kernel) (by decide +kernel), by decide +kernel, by decide⟩
abbrev mX3_type : MT := (yX3_type, cX3_type, 2, some .int)
theorem cmX3_type : CM mX3_type 1 := ⟨gt_t 295 (by decide +kernel) (by decide +kernel), gt_t 1 (by decide +kernel) (by decide +kernel), by decide +kernel, by decide⟩
abbrev mX3_clear : MT := (yX3_clear, cX3_clear, 2, some .int)
theorem cmX3_clear : CM mX3_clear 0 := ⟨gt_t 299 (by decide +kernel) (by decide +kernel), gt_t 1 (by decide +kernel) (by decide +kernel), by decide +kernel, by decide⟩
abbrev mX3_city : MT := (yX3_city, cX3_city, 4, some .int)
theorem cmX3_city : CM mX3_city 0 := ⟨gt_t 303 (by decide +kernel) (by decide +kernel), gt_t 1 (by decide +kernel) (by decide +kernel), by decide +kernel, by decide⟩
abbrev mX3_district : MT := (yX3_district, cX3_district, 3, some .int)
theorem cmX3_district : CM mX3_district 2 := ⟨gt_t 307 (by decide +kernel) (by decide +kernel), gt_t 1 (by decide +kernel) (by decide +kernel), by decide +kernel, by decide⟩
abbrev mX3_isDistrict : MT := (yX3_isDistrict, cX3_isDistrict, 2, some .boolean)
theorem cmX3_isDistrict : CM mX3_isDistrict 1 := ⟨gt_t 311 (by decide +kernel) (by decide +kernel), gt_t 1 (by decide +kernel) (by decide +kernel), by decide +kernel, by decide⟩
abbrev mX3_citizen : MT := (yX3_citizen, cX3_citizen, 3, some .int)
theorem cmX3_citizen : CM mX3_citizen 2 := ⟨gt_t 315 (by decide +kernel) (by decide +kernel), gt_t 1 (by decide +kernel) (by decide +kernel), by decide +kernel, by decide⟩
abbrev mX3_isCitizen : MT := (yX3_isCitizen, cX3_isCitizen, 2, some .boolean)
theorem cmX3_isCitizen : CM mX3_isCitizen 1 := ⟨gt_t 319 (by decide +kernel) (by decide +kernel), gt_t 1 (by decide +kernel) (by decide +kernel), by decide +kernel, by decide⟩
abbrev mX3_noise : MT := (yX3_noise, cX3_noise, 3, some .int)
theorem cmX3_noise : CM mX3_noise 2 := ⟨gt_t 323 (by decide +kernel) (by decide +kernel), gt_t 1 (by decide +kernel) (by decide +kernel), by decide +kernel, by decide⟩
abbrev mX3_now : MT := (yX3_now, cX3_now, 2, some .int)
theorem cmX3_now : CM mX3_now 1 := ⟨gt_t 327 (by decide +kernel) (by decide +kernel), gt_t 1 (by decide +kernel) (by decide +kernel), by decide +kernel, by decide⟩
abbrev mX3_sleptMost : MT := (yX3_sleptMost, cX3_sleptMost, 3, some .int)
theorem cmX3_sleptMost : CM mX3_sleptMost 0 := ⟨gt_t 331 (by decide +kernel) (by decide +kernel), gt_t 1 (by decide +kernel) (by decide +kernel), by decide +kernel, by decide⟩
abbrev mX3_sleptLeast : MT := (yX3_sleptLeast, cX3_sleptLeast, 3, some .int)
theorem cmX3_sleptLeast : CM mX3_sleptLeast 0 := ⟨gt_t 335 (by decide +kernel) (by decide +kernel), gt_t 1 (by decide +kernel) (by decide +kernel), by decide +kernel, by decide⟩
abbrev mX3_calls : MT := (yX3_calls, cX3_calls, 4, some .int)
theorem cmX3_calls : CM mX3_calls 2 := ⟨gt_t 339 (by decide +kernel) (by decide +kernel), gt_t 1 (by decide +kernel) (by decide +kernel), by decide +kernel, by decide⟩
abbrev mX3_remember : MT := (yX3_remember, cX3_remember, 1, none)
theorem cmX3_remember : CM mX3_remember 0 := ⟨gt_t 343 (by decide +kernel) (by decide +kernel), gt_t 1 (by decide +kernel) (by decide +kernel), by decide +kernel, by decide⟩
abbrev mX1_become : MT := (yX1_become, cX1_become, 2, none)
theorem cmX1_become : CM mX1_become 1 := ⟨gt_t 347 (by decide +kernel) (by decide +kernel), gt_t 4 (by decide +kernel) (by decide +kernel), by decide +kernel, by decide⟩
abbrev mX3_hour : MT := (yX3_hour, cX3_hour, 1, some .int)
theorem cmX3_hour : CM mX3_hour 0 := ⟨gt_t 355 (by decide +kernel) (by decide +kernel), gt_t 1 (by decide +kernel) (by decide +kernel), by decide +kernel, by decide⟩
abbrev mX3_goBy : MT := (yX3_goBy, cX3_goBy, 4, some .int)
theorem cmX3_goBy : CM mX3_goBy 2 := ⟨gt_t 359 (by decide +kernel) (by decide +kernel), gt_t 1 (by decide +kernel) (by decide +kernel), by decide +kernel, by decide⟩
abbrev mX0_asleep : MT := (yX0_asleep, cX0_asleep, 3, some .int)
theorem cmX0_asleep : CM mX0_asleep 2 := ⟨gt_t 363 (by decide +kernel) (by decide +kernel), gt_t 3 (by decide +kernel) (by decide +kernel), by decide +kernel, by decide⟩
abbrev mX0_lyingDown : MT := (yX0_lyingDown, cX0_lyingDown, 7, some .int)
theorem cmX0_lyingDown : CM mX0_lyingDown 2 := ⟨gt_t 367 (by decide +kernel) (by decide +kernel), gt_t 3 (by decide +kernel) (by decide +kernel), by decide +kernel, by decide⟩
abbrev mX0_couldLieDown : MT := (yX0_couldLieDown, cX0_couldLieDown, 4, some .int)
theorem cmX0_couldLieDown : CM mX0_couldLieDown 1 := ⟨gt_t 371 (by decide +kernel) (by decide +kernel), gt_t 3 (by decide +kernel) (by decide +kernel), by decide +kernel, by decide⟩
abbrev mJ6_bitCount_0f7a4 : MT := (yJ6_bitCount_0f7a4, cJ6_bitCount_0f7a4, 1, some .int)
theorem cmJ6_bitCount_0f7a4 : CM mJ6_bitCount_0f7a4 1 := ⟨gt_t 374 (by decide +kernel) (by decide +kernel), gt_t 8 (by decide +kernel) (by decide +kernel), by decide +kernel, by decide⟩
abbrev mX1_pass : MT := (yX1_pass, cX1_pass, 4, none)
theorem cmX1_pass : CM mX1_pass 2 := ⟨gt_t 381 (by decide +kernel) (by decide +kernel), gt_t 4 (by decide +kernel) (by decide +kernel), by decide +kernel, by decide⟩
abbrev mX3_tire : MT := (yX3_tire, cX3_tire, 4, none)
theorem cmX3_tire : CM mX3_tire 3 := ⟨gt_t 384 (by decide +kernel) (by decide +kernel), gt_t 1 (by decide +kernel) (by decide +kernel), by decide +kernel, by decide⟩
abbrev mX3_undo : MT := (yX3_undo, cX3_undo, 1, some .int)
theorem cmX3_undo : CM mX3_undo 0 := ⟨gt_t 393 (by decide +kernel) (by decide +kernel), gt_t 1 (by decide +kernel) (by decide +kernel), by decide +kernel, by decide⟩
abbrev mX3_asleepIn : MT := (yX3_asleepIn, cX3_asleepIn, 4, some .int)
theorem cmX3_asleepIn : CM mX3_asleepIn 1 := ⟨gt_t 397 (by decide +kernel) (by decide +kernel), gt_t 1 (by decide +kernel) (by decide +kernel), by decide +kernel, by decide⟩
abbrev mX3_lapse : MT := (yX3_lapse, cX3_lapse, 1, some .int)
theorem cmX3_lapse : CM mX3_lapse 0 := ⟨gt_t 401 (by decide +kernel) (by decide +kernel), gt_t 1 (by decide +kernel) (by decide +kernel), by decide +kernel, by decide⟩
abbrev mX3_firstLapse : MT := (yX3_firstLapse, cX3_firstLapse, 4, some .int)
theorem cmX3_firstLapse : CM mX3_firstLapse 2 := ⟨gt_t 405 (by decide +kernel) (by decide +kernel), gt_t 1 (by decide +kernel) (by decide +kernel), by decide +kernel, by decide⟩
abbrev mX3_lapses : MT := (yX3_lapses, cX3_lapses, 2, some .boolean)
theorem cmX3_lapses : CM mX3_lapses 1 := ⟨gt_t 409 (by decide +kernel) (by decide +kernel), gt_t 1 (by decide +kernel) (by decide +kernel), by decide +kernel, by decide⟩
abbrev mX3_callUp : MT := (yX3_callUp, cX3_callUp, 3, some .int)
theorem cmX3_callUp : CM mX3_callUp 2 := ⟨gt_t 414 (by decide +kernel) (by decide +kernel), gt_t 1 (by decide +kernel) (by decide +kernel), by decide +kernel, by decide⟩
abbrev mX3_enoughInEach : MT := (yX3_enoughInEach, cX3_enoughInEach, 4, some .boolean)
theorem cmX3_enoughInEach : CM mX3_enoughInEach 1 := ⟨gt_t 419 (by decide +kernel) (by decide +kernel), gt_t 1 (by decide +kernel) (by decide +kernel), by decide +kernel, by decide⟩
abbrev mX3_hourAhead : MT := (yX3_hourAhead, cX3_hourAhead, 2, some .int)
theorem cmX3_hourAhead : CM mX3_hourAhead 1 := ⟨gt_t 423 (by decide +kernel) (by decide +kernel), gt_t 1 (by decide +kernel) (by decide +kernel), by decide +kernel, by decide⟩
abbrev mX0_tiredOf : MT := (yX0_tiredOf, cX0_tiredOf, 4, some .int)
theorem cmX0_tiredOf : CM mX0_tiredOf 1 := ⟨gt_t 427 (by decide +kernel) (by decide +kernel), gt_t 3 (by decide +kernel) (by decide +kernel), by decide +kernel, by decide⟩
abbrev mX0_bedded : MT := (yX0_bedded, cX0_bedded, 4, some .int)
theorem cmX0_bedded : CM mX0_bedded 1 := ⟨gt_t 431 (by decide +kernel) (by decide +kernel), gt_t 3 (by decide +kernel) (by decide +kernel), by decide +kernel, by decide⟩
abbrev mX3_callUpFrom : MT := (yX3_callUpFrom, cX3_callUpFrom, 5, some .boolean)
theorem cmX3_callUpFrom : CM mX3_callUpFrom 2 := ⟨gt_t 436 (by decide +kernel) (by decide +kernel), gt_t 1 (by decide +kernel) (by decide +kernel), by decide +kernel, by decide⟩
abbrev mX3_bears : MT := (yX3_bears, cX3_bears, 3, some .int)
theorem cmX3_bears : CM mX3_bears 0 := ⟨gt_t 441 (by decide +kernel) (by decide +kernel), gt_t 1 (by decide +kernel) (by decide +kernel), by decide +kernel, by decide⟩
abbrev mX3_cart : MT := (yX3_cart, cX3_cart, 8, some .int)
theorem cmX3_cart : CM mX3_cart 4 := ⟨gt_t 445 (by decide +kernel) (by decide +kernel), gt_t 1 (by decide +kernel) (by decide +kernel), by decide +kernel, by decide⟩
abbrev mX3_wakingCost : MT := (yX3_wakingCost, cX3_wakingCost, 4, some .int)
theorem cmX3_wakingCost : CM mX3_wakingCost 3 := ⟨gt_t 449 (by decide +kernel) (by decide +kernel), gt_t 1 (by decide +kernel) (by decide +kernel), by decide +kernel, by decide⟩
abbrev mX3_driveOn : MT := (yX3_driveOn, cX3_driveOn, 5, none)
theorem cmX3_driveOn : CM mX3_driveOn 3 := ⟨gt_t 454 (by decide +kernel) (by decide +kernel), gt_t 1 (by decide +kernel) (by decide +kernel), by decide +kernel, by decide⟩
abbrev mX3_drum : MT := (yX3_drum, cX3_drum, 4, some .int)
theorem cmX3_drum : CM mX3_drum 1 := ⟨gt_t 458 (by decide +kernel) (by decide +kernel), gt_t 1 (by decide +kernel) (by decide +kernel), by decide +kernel, by decide⟩
abbrev mX3_wants : MT := (yX3_wants, cX3_wants, 2, some .int)
theorem cmX3_wants : CM mX3_wants 1 := ⟨gt_t 462 (by decide +kernel) (by decide +kernel), gt_t 1 (by decide +kernel) (by decide +kernel), by decide +kernel, by decide⟩
abbrev mX3_counted : MT := (yX3_counted, cX3_counted, 3, some .int)
theorem cmX3_counted : CM mX3_counted 2 := ⟨gt_t 467 (by decide +kernel) (by decide +kernel), gt_t 1 (by decide +kernel) (by decide +kernel), by decide +kernel, by decide⟩
abbrev mX3_forget : MT := (yX3_forget, cX3_forget, 2, some .int)
theorem cmX3_forget : CM mX3_forget 0 := ⟨gt_t 471 (by decide +kernel) (by decide +kernel), gt_t 1 (by decide +kernel) (by decide +kernel), by decide +kernel, by decide⟩
abbrev mX3_sham : MT := (yX3_sham, cX3_sham, 3, some .int)
theorem cmX3_sham : CM mX3_sham 0 := ⟨gt_t 475 (by decide +kernel) (by decide +kernel), gt_t 1 (by decide +kernel) (by decide +kernel), by decide +kernel, by decide⟩
abbrev mX3_makesCountsSo : MT := (yX3_makesCountsSo, cX3_makesCountsSo, 5, some .boolean)
theorem cmX3_makesCountsSo : CM mX3_makesCountsSo 1 := ⟨gt_t 479 (by decide +kernel) (by decide +kernel), gt_t 1 (by decide +kernel) (by decide +kernel), by decide +kernel, by decide⟩
abbrev mX3_lastCounted : MT := (yX3_lastCounted, cX3_lastCounted, 3, some .int)
theorem cmX3_lastCounted : CM mX3_lastCounted 0 := ⟨gt_t 483 (by decide +kernel) (by decide +kernel), gt_t 1 (by decide +kernel) (by decide +kernel), by decide +kernel, by decide⟩
abbrev mX3_isAsCounted : MT := (yX3_isAsCounted, cX3_isAsCounted, 4, some .boolean)
theorem cmX3_isAsCounted : CM mX3_isAsCounted 2 := ⟨gt_t 487 (by decide +kernel) (by decide +kernel), gt_t 1 (by decide +kernel) (by decide +kernel), by decide +kernel, by decide⟩
abbrev mX3_odds : MT := (yX3_odds, cX3_odds, 9, some .int)
theorem cmX3_odds : CM mX3_odds 2 := ⟨gt_t 491 (by decide +kernel) (by decide +kernel), gt_t 1 (by decide +kernel) (by decide +kernel), by decide +kernel, by decide⟩
abbrev mX3_power : MT := (yX3_power, cX3_power, 4, some .int)
theorem cmX3_power : CM mX3_power 2 := ⟨gt_t 497 (by decide +kernel) (by decide +kernel), gt_t 1 (by decide +kernel) (by decide +kernel), by decide +kernel, by decide⟩
abbrev mX3_inLeastTerms : MT := (yX3_inLeastTerms, cX3_inLeastTerms, 6, some .int)
theorem cmX3_inLeastTerms : CM mX3_inLeastTerms 3 := ⟨gt_t 500 (by decide +kernel) (by decide +kernel), gt_t 1 (by decide +kernel) (by decide +kernel), by decide +kernel, by decide⟩
abbrev mX3_rate : MT := (yX3_rate, cX3_rate, 3, some .int)
theorem cmX3_rate : CM mX3_rate 2 := ⟨gt_t 504 (by decide +kernel) (by decide +kernel), gt_t 1 (by decide +kernel) (by decide +kernel), by decide +kernel, by decide⟩
abbrev mX3_asCitizen : MT := (yX3_asCitizen, cX3_asCitizen, 2, some .int)
theorem cmX3_asCitizen : CM mX3_asCitizen 1 := ⟨gt_t 509 (by decide +kernel) (by decide +kernel), gt_t 1 (by decide +kernel) (by decide +kernel), by decide +kernel, by decide⟩
abbrev mX3_asBaker : MT := (yX3_asBaker, cX3_asBaker, 2, some .int)
theorem cmX3_asBaker : CM mX3_asBaker 1 := ⟨gt_t 513 (by decide +kernel) (by decide +kernel), gt_t 1 (by decide +kernel) (by decide +kernel), by decide +kernel, by decide⟩
abbrev mX3_asDeputy : MT := (yX3_asDeputy, cX3_asDeputy, 2, some .int)
theorem cmX3_asDeputy : CM mX3_asDeputy 1 := ⟨gt_t 518 (by decide +kernel) (by decide +kernel), gt_t 1 (by decide +kernel) (by decide +kernel), by decide +kernel, by decide⟩
abbrev mX3_asGuard : MT := (yX3_asGuard, cX3_asGuard, 2, some .int)
theorem cmX3_asGuard : CM mX3_asGuard 1 := ⟨gt_t 523 (by decide +kernel) (by decide +kernel), gt_t 1 (by decide +kernel) (by decide +kernel), by decide +kernel, by decide⟩
abbrev mX3_asTwin : MT := (yX3_asTwin, cX3_asTwin, 2, some .int)
theorem cmX3_asTwin : CM mX3_asTwin 1 := ⟨gt_t 528 (by decide +kernel) (by decide +kernel), gt_t 1 (by decide +kernel) (by decide +kernel), by decide +kernel, by decide⟩
abbrev mX3_asVeteran : MT := (yX3_asVeteran, cX3_asVeteran, 2, some .int)
theorem cmX3_asVeteran : CM mX3_asVeteran 1 := ⟨gt_t 533 (by decide +kernel) (by decide +kernel), gt_t 1 (by decide +kernel) (by decide +kernel), by decide +kernel, by decide⟩
abbrev mX3_keep : MT := (yX3_keep, cX3_keep, 2, some .int)
theorem cmX3_keep : CM mX3_keep 1 := ⟨gt_t 538 (by decide +kernel) (by decide +kernel), gt_t 1 (by decide +kernel) (by decide +kernel), by decide +kernel, by decide⟩
abbrev mX3_back : MT := (yX3_back, cX3_back, 2, some .int)
theorem cmX3_back : CM mX3_back 1 := ⟨gt_t 542 (by decide +kernel) (by decide +kernel), gt_t 1 (by decide +kernel) (by decide +kernel), by decide +kernel, by decide⟩
abbrev mX3_count : MT := (yX3_count, cX3_count, 2, some .int)
theorem cmX3_count : CM mX3_count 1 := ⟨gt_t 546 (by decide +kernel) (by decide +kernel), gt_t 1 (by decide +kernel) (by decide +kernel), by decide +kernel, by decide⟩
abbrev mX3_trace : MT := (yX3_trace, cX3_trace, 1, some .long)
theorem cmX3_trace : CM mX3_trace 0 := ⟨gt_t 550 (by decide +kernel) (by decide +kernel), gt_t 1 (by decide +kernel) (by decide +kernel), by decide +kernel, by decide⟩
abbrev mX4_init : MT := (yX4_init, cX4_init, 1, none)
theorem cmX4_init : CM mX4_init 0 := ⟨gt_t 555 (by decide +kernel) (by decide +kernel), gt_t 6 (by decide +kernel) (by decide +kernel), by decide +kernel, by decide⟩
abbrev mX4_reads : MT := (yX4_reads, cX4_reads, 2, some .boolean)
theorem cmX4_reads : CM mX4_reads 0 := ⟨gt_t 560 (by decide +kernel) (by decide +kernel), gt_t 6 (by decide +kernel) (by decide +kernel), by decide +kernel, by decide⟩
abbrev mX4_in : MT := (yX4_in, cX4_in, 3, some .boolean)
theorem cmX4_in : CM mX4_in 3 := ⟨gt_t 563 (by decide +kernel) (by decide +kernel), gt_t 6 (by decide +kernel) (by decide +kernel), by decide +kernel, by decide⟩
abbrev mX4_token : MT := (yX4_token, cX4_token, 2, none)
theorem cmX4_token : CM mX4_token 0 := ⟨gt_t 567 (by decide +kernel) (by decide +kernel), gt_t 6 (by decide +kernel) (by decide +kernel), by decide +kernel, by decide⟩
abbrev mX4_letterAt : MT := (yX4_letterAt, cX4_letterAt, 2, some .int)
theorem cmX4_letterAt : CM mX4_letterAt 1 := ⟨gt_t 571 (by decide +kernel) (by decide +kernel), gt_t 6 (by decide +kernel) (by decide +kernel), by decide +kernel, by decide⟩
abbrev mX4_isItem : MT := (yX4_isItem, cX4_isItem, 1, some .boolean)
theorem cmX4_isItem : CM mX4_isItem 1 := ⟨gt_t 574 (by decide +kernel) (by decide +kernel), gt_t 6 (by decide +kernel) (by decide +kernel), by decide +kernel, by decide⟩
abbrev mX4_isDigit : MT := (yX4_isDigit, cX4_isDigit, 1, some .boolean)
theorem cmX4_isDigit : CM mX4_isDigit 1 := ⟨gt_t 577 (by decide +kernel) (by decide +kernel), gt_t 6 (by decide +kernel) (by decide +kernel), by decide +kernel, by decide⟩
abbrev mX4_readsItem : MT := (yX4_readsItem, cX4_readsItem, 2, some .boolean)
theorem cmX4_readsItem : CM mX4_readsItem 0 := ⟨gt_t 581 (by decide +kernel) (by decide +kernel), gt_t 6 (by decide +kernel) (by decide +kernel), by decide +kernel, by decide⟩
abbrev mX4_readsDistricts : MT := (yX4_readsDistricts, cX4_readsDistricts, 1, some .boolean)
theorem cmX4_readsDistricts : CM mX4_readsDistricts 0 := ⟨gt_t 585 (by decide +kernel) (by decide +kernel), gt_t 6 (by decide +kernel) (by decide +kernel), by decide +kernel, by decide⟩
abbrev mX4_number : MT := (yX4_number, cX4_number, 4, some .boolean)
theorem cmX4_number : CM mX4_number 3 := ⟨gt_t 589 (by decide +kernel) (by decide +kernel), gt_t 6 (by decide +kernel) (by decide +kernel), by decide +kernel, by decide⟩
abbrev mX4_readsQuota : MT := (yX4_readsQuota, cX4_readsQuota, 1, some .boolean)
theorem cmX4_readsQuota : CM mX4_readsQuota 0 := ⟨gt_t 593 (by decide +kernel) (by decide +kernel), gt_t 6 (by decide +kernel) (by decide +kernel), by decide +kernel, by decide⟩
abbrev mX4_readsRoad : MT := (yX4_readsRoad, cX4_readsRoad, 2, some .boolean)
theorem cmX4_readsRoad : CM mX4_readsRoad 0 := ⟨gt_t 597 (by decide +kernel) (by decide +kernel), gt_t 6 (by decide +kernel) (by decide +kernel), by decide +kernel, by decide⟩
abbrev mX4_readsBeds : MT := (yX4_readsBeds, cX4_readsBeds, 1, some .boolean)
theorem cmX4_readsBeds : CM mX4_readsBeds 0 := ⟨gt_t 601 (by decide +kernel) (by decide +kernel), gt_t 6 (by decide +kernel) (by decide +kernel), by decide +kernel, by decide⟩
abbrev mX4_readsCitizen : MT := (yX4_readsCitizen, cX4_readsCitizen, 2, some .boolean)
theorem cmX4_readsCitizen : CM mX4_readsCitizen 0 := ⟨gt_t 605 (by decide +kernel) (by decide +kernel), gt_t 6 (by decide +kernel) (by decide +kernel), by decide +kernel, by decide⟩
abbrev mX4_readsNoise : MT := (yX4_readsNoise, cX4_readsNoise, 2, some .boolean)
theorem cmX4_readsNoise : CM mX4_readsNoise 0 := ⟨gt_t 609 (by decide +kernel) (by decide +kernel), gt_t 6 (by decide +kernel) (by decide +kernel), by decide +kernel, by decide⟩
abbrev mX4_tells : MT := (yX4_tells, cX4_tells, 2, none)
theorem cmX4_tells : CM mX4_tells 0 := ⟨gt_t 613 (by decide +kernel) (by decide +kernel), gt_t 6 (by decide +kernel) (by decide +kernel), by decide +kernel, by decide⟩
abbrev mX4_begins : MT := (yX4_begins, cX4_begins, 2, none)
theorem cmX4_begins : CM mX4_begins 0 := ⟨gt_t 617 (by decide +kernel) (by decide +kernel), gt_t 6 (by decide +kernel) (by decide +kernel), by decide +kernel, by decide⟩
abbrev mX4_type : MT := (yX4_type, cX4_type, 2, some .int)
theorem cmX4_type : CM mX4_type 1 := ⟨gt_t 700 (by decide +kernel) (by decide +kernel), gt_t 6 (by decide +kernel) (by decide +kernel), by decide +kernel, by decide⟩
abbrev mX4_clear : MT := (yX4_clear, cX4_clear, 2, some .int)
theorem cmX4_clear : CM mX4_clear 0 := ⟨gt_t 704 (by decide +kernel) (by decide +kernel), gt_t 6 (by decide +kernel) (by decide +kernel), by decide +kernel, by decide⟩
abbrev mX4_city : MT := (yX4_city, cX4_city, 1, some .int)
theorem cmX4_city : CM mX4_city 0 := ⟨gt_t 708 (by decide +kernel) (by decide +kernel), gt_t 6 (by decide +kernel) (by decide +kernel), by decide +kernel, by decide⟩
abbrev mX4_district : MT := (yX4_district, cX4_district, 3, some .int)
theorem cmX4_district : CM mX4_district 2 := ⟨gt_t 712 (by decide +kernel) (by decide +kernel), gt_t 6 (by decide +kernel) (by decide +kernel), by decide +kernel, by decide⟩
abbrev mX4_isDistrict : MT := (yX4_isDistrict, cX4_isDistrict, 2, some .boolean)
theorem cmX4_isDistrict : CM mX4_isDistrict 1 := ⟨gt_t 716 (by decide +kernel) (by decide +kernel), gt_t 6 (by decide +kernel) (by decide +kernel), by decide +kernel, by decide⟩
abbrev mX4_citizen : MT := (yX4_citizen, cX4_citizen, 3, some .int)
theorem cmX4_citizen : CM mX4_citizen 2 := ⟨gt_t 720 (by decide +kernel) (by decide +kernel), gt_t 6 (by decide +kernel) (by decide +kernel), by decide +kernel, by decide⟩
abbrev mX4_isCitizen : MT := (yX4_isCitizen, cX4_isCitizen, 2, some .boolean)
theorem cmX4_isCitizen : CM mX4_isCitizen 1 := ⟨gt_t 724 (by decide +kernel) (by decide +kernel), gt_t 6 (by decide +kernel) (by decide +kernel), by decide +kernel, by decide⟩
abbrev mX4_noise : MT := (yX4_noise, cX4_noise, 3, some .int)
theorem cmX4_noise : CM mX4_noise 2 := ⟨gt_t 728 (by decide +kernel) (by decide +kernel), gt_t 6 (by decide +kernel) (by decide +kernel), by decide +kernel, by decide⟩
abbrev mX4_now : MT := (yX4_now, cX4_now, 2, some .int)
theorem cmX4_now : CM mX4_now 1 := ⟨gt_t 732 (by decide +kernel) (by decide +kernel), gt_t 6 (by decide +kernel) (by decide +kernel), by decide +kernel, by decide⟩
abbrev mX4_most : MT := (yX4_most, cX4_most, 5, some .int)
theorem cmX4_most : CM mX4_most 1 := ⟨gt_t 736 (by decide +kernel) (by decide +kernel), gt_t 6 (by decide +kernel) (by decide +kernel), by decide +kernel, by decide⟩
abbrev mX4_calls : MT := (yX4_calls, cX4_calls, 4, some .int)
theorem cmX4_calls : CM mX4_calls 2 := ⟨gt_t 740 (by decide +kernel) (by decide +kernel), gt_t 6 (by decide +kernel) (by decide +kernel), by decide +kernel, by decide⟩
abbrev mX4_keeps : MT := (yX4_keeps, cX4_keeps, 2, none)
theorem cmX4_keeps : CM mX4_keeps 0 := ⟨gt_t 744 (by decide +kernel) (by decide +kernel), gt_t 6 (by decide +kernel) (by decide +kernel), by decide +kernel, by decide⟩
abbrev mX4_hour : MT := (yX4_hour, cX4_hour, 2, some .int)
theorem cmX4_hour : CM mX4_hour 0 := ⟨gt_t 748 (by decide +kernel) (by decide +kernel), gt_t 6 (by decide +kernel) (by decide +kernel), by decide +kernel, by decide⟩
abbrev mX4_calledNow : MT := (yX4_calledNow, cX4_calledNow, 3, some .int)
theorem cmX4_calledNow : CM mX4_calledNow 0 := ⟨gt_t 752 (by decide +kernel) (by decide +kernel), gt_t 6 (by decide +kernel) (by decide +kernel), by decide +kernel, by decide⟩
abbrev mX4_asleep : MT := (yX4_asleep, cX4_asleep, 7, some .int)
theorem cmX4_asleep : CM mX4_asleep 1 := ⟨gt_t 756 (by decide +kernel) (by decide +kernel), gt_t 6 (by decide +kernel) (by decide +kernel), by decide +kernel, by decide⟩
abbrev mX4_could : MT := (yX4_could, cX4_could, 3, some .boolean)
theorem cmX4_could : CM mX4_could 2 := ⟨gt_t 760 (by decide +kernel) (by decide +kernel), gt_t 6 (by decide +kernel) (by decide +kernel), by decide +kernel, by decide⟩
abbrev mX4_loudest : MT := (yX4_loudest, cX4_loudest, 5, some .int)
theorem cmX4_loudest : CM mX4_loudest 1 := ⟨gt_t 764 (by decide +kernel) (by decide +kernel), gt_t 6 (by decide +kernel) (by decide +kernel), by decide +kernel, by decide⟩
abbrev mX4_goes : MT := (yX4_goes, cX4_goes, 5, some .boolean)
theorem cmX4_goes : CM mX4_goes 1 := ⟨gt_t 768 (by decide +kernel) (by decide +kernel), gt_t 6 (by decide +kernel) (by decide +kernel), by decide +kernel, by decide⟩
abbrev mX4_ones : MT := (yX4_ones, cX4_ones, 3, some .int)
theorem cmX4_ones : CM mX4_ones 1 := ⟨gt_t 771 (by decide +kernel) (by decide +kernel), gt_t 6 (by decide +kernel) (by decide +kernel), by decide +kernel, by decide⟩
abbrev mX4_undo : MT := (yX4_undo, cX4_undo, 2, some .int)
theorem cmX4_undo : CM mX4_undo 0 := ⟨gt_t 775 (by decide +kernel) (by decide +kernel), gt_t 6 (by decide +kernel) (by decide +kernel), by decide +kernel, by decide⟩
abbrev mX4_asleepIn : MT := (yX4_asleepIn, cX4_asleepIn, 3, some .int)
theorem cmX4_asleepIn : CM mX4_asleepIn 1 := ⟨gt_t 779 (by decide +kernel) (by decide +kernel), gt_t 6 (by decide +kernel) (by decide +kernel), by decide +kernel, by decide⟩
abbrev mX4_holds : MT := (yX4_holds, cX4_holds, 2, none)
theorem cmX4_holds : CM mX4_holds 0 := ⟨gt_t 783 (by decide +kernel) (by decide +kernel), gt_t 6 (by decide +kernel) (by decide +kernel), by decide +kernel, by decide⟩
abbrev mX4_lets : MT := (yX4_lets, cX4_lets, 2, none)
theorem cmX4_lets : CM mX4_lets 0 := ⟨gt_t 787 (by decide +kernel) (by decide +kernel), gt_t 6 (by decide +kernel) (by decide +kernel), by decide +kernel, by decide⟩
abbrev mX4_lapse : MT := (yX4_lapse, cX4_lapse, 1, some .int)
theorem cmX4_lapse : CM mX4_lapse 0 := ⟨gt_t 791 (by decide +kernel) (by decide +kernel), gt_t 6 (by decide +kernel) (by decide +kernel), by decide +kernel, by decide⟩
abbrev mX4_lapseIn : MT := (yX4_lapseIn, cX4_lapseIn, 4, some .int)
theorem cmX4_lapseIn : CM mX4_lapseIn 1 := ⟨gt_t 795 (by decide +kernel) (by decide +kernel), gt_t 6 (by decide +kernel) (by decide +kernel), by decide +kernel, by decide⟩
abbrev mX4_callUp : MT := (yX4_callUp, cX4_callUp, 3, some .int)
theorem cmX4_callUp : CM mX4_callUp 2 := ⟨gt_t 799 (by decide +kernel) (by decide +kernel), gt_t 6 (by decide +kernel) (by decide +kernel), by decide +kernel, by decide⟩
abbrev mX4_seeks : MT := (yX4_seeks, cX4_seeks, 8, none)
theorem cmX4_seeks : CM mX4_seeks 1 := ⟨gt_t 803 (by decide +kernel) (by decide +kernel), gt_t 6 (by decide +kernel) (by decide +kernel), by decide +kernel, by decide⟩
abbrev mX4_puts : MT := (yX4_puts, cX4_puts, 3, none)
theorem cmX4_puts : CM mX4_puts 1 := ⟨gt_t 807 (by decide +kernel) (by decide +kernel), gt_t 6 (by decide +kernel) (by decide +kernel), by decide +kernel, by decide⟩
abbrev mX4_takes : MT := (yX4_takes, cX4_takes, 3, none)
theorem cmX4_takes : CM mX4_takes 1 := ⟨gt_t 811 (by decide +kernel) (by decide +kernel), gt_t 6 (by decide +kernel) (by decide +kernel), by decide +kernel, by decide⟩
abbrev mX4_bears : MT := (yX4_bears, cX4_bears, 3, some .int)
theorem cmX4_bears : CM mX4_bears 0 := ⟨gt_t 815 (by decide +kernel) (by decide +kernel), gt_t 6 (by decide +kernel) (by decide +kernel), by decide +kernel, by decide⟩
abbrev mX4_cart : MT := (yX4_cart, cX4_cart, 11, some .int)
theorem cmX4_cart : CM mX4_cart 4 := ⟨gt_t 819 (by decide +kernel) (by decide +kernel), gt_t 6 (by decide +kernel) (by decide +kernel), by decide +kernel, by decide⟩
abbrev mX4_far : MT := (yX4_far, cX4_far, 8, some .int)
theorem cmX4_far : CM mX4_far 3 := ⟨gt_t 823 (by decide +kernel) (by decide +kernel), gt_t 6 (by decide +kernel) (by decide +kernel), by decide +kernel, by decide⟩
abbrev mX4_drum : MT := (yX4_drum, cX4_drum, 4, some .int)
theorem cmX4_drum : CM mX4_drum 1 := ⟨gt_t 827 (by decide +kernel) (by decide +kernel), gt_t 6 (by decide +kernel) (by decide +kernel), by decide +kernel, by decide⟩
abbrev mX4_wants : MT := (yX4_wants, cX4_wants, 5, some .int)
theorem cmX4_wants : CM mX4_wants 1 := ⟨gt_t 831 (by decide +kernel) (by decide +kernel), gt_t 6 (by decide +kernel) (by decide +kernel), by decide +kernel, by decide⟩
abbrev mX4_counted : MT := (yX4_counted, cX4_counted, 3, some .int)
theorem cmX4_counted : CM mX4_counted 2 := ⟨gt_t 835 (by decide +kernel) (by decide +kernel), gt_t 6 (by decide +kernel) (by decide +kernel), by decide +kernel, by decide⟩
abbrev mX4_forget : MT := (yX4_forget, cX4_forget, 2, some .int)
theorem cmX4_forget : CM mX4_forget 0 := ⟨gt_t 839 (by decide +kernel) (by decide +kernel), gt_t 6 (by decide +kernel) (by decide +kernel), by decide +kernel, by decide⟩
abbrev mX4_sham : MT := (yX4_sham, cX4_sham, 3, some .int)
theorem cmX4_sham : CM mX4_sham 0 := ⟨gt_t 843 (by decide +kernel) (by decide +kernel), gt_t 6 (by decide +kernel) (by decide +kernel), by decide +kernel, by decide⟩
abbrev mX4_isSo : MT := (yX4_isSo, cX4_isSo, 5, some .boolean)
theorem cmX4_isSo : CM mX4_isSo 0 := ⟨gt_t 847 (by decide +kernel) (by decide +kernel), gt_t 6 (by decide +kernel) (by decide +kernel), by decide +kernel, by decide⟩
abbrev mX4_odds : MT := (yX4_odds, cX4_odds, 9, some .int)
theorem cmX4_odds : CM mX4_odds 2 := ⟨gt_t 851 (by decide +kernel) (by decide +kernel), gt_t 6 (by decide +kernel) (by decide +kernel), by decide +kernel, by decide⟩
abbrev mX4_rate : MT := (yX4_rate, cX4_rate, 6, some .int)
theorem cmX4_rate : CM mX4_rate 2 := ⟨gt_t 855 (by decide +kernel) (by decide +kernel), gt_t 6 (by decide +kernel) (by decide +kernel), by decide +kernel, by decide⟩
abbrev mX4_keep : MT := (yX4_keep, cX4_keep, 3, some .int)
theorem cmX4_keep : CM mX4_keep 1 := ⟨gt_t 865 (by decide +kernel) (by decide +kernel), gt_t 6 (by decide +kernel) (by decide +kernel), by decide +kernel, by decide⟩
abbrev mX4_back : MT := (yX4_back, cX4_back, 3, some .int)
theorem cmX4_back : CM mX4_back 1 := ⟨gt_t 869 (by decide +kernel) (by decide +kernel), gt_t 6 (by decide +kernel) (by decide +kernel), by decide +kernel, by decide⟩
abbrev mX4_count : MT := (yX4_count, cX4_count, 2, some .int)
theorem cmX4_count : CM mX4_count 1 := ⟨gt_t 873 (by decide +kernel) (by decide +kernel), gt_t 6 (by decide +kernel) (by decide +kernel), by decide +kernel, by decide⟩
abbrev mX4_trace : MT := (yX4_trace, cX4_trace, 1, some .long)
theorem cmX4_trace : CM mX4_trace 0 := ⟨gt_t 877 (by decide +kernel) (by decide +kernel), gt_t 6 (by decide +kernel) (by decide +kernel), by decide +kernel, by decide⟩
theorem flRX2_9 : FR RX2 9 2 0 := ⟨⟨by decide, by decide, rfl, gt_t 23 (by decide +kernel) (by decide +kernel)⟩, Or.inr ⟨_, rfl⟩⟩
theorem flRX3_77 : FR RX3 77 2 0 := ⟨⟨by decide, by decide, rfl, gt_t 24 (by decide +kernel) (by decide +kernel)⟩, Or.inr ⟨_, rfl⟩⟩
theorem flRX3_73 : FI RX3 73 2 1 := ⟨⟨by decide, by decide, rfl, gt_t 25 (by decide +kernel) (by decide +kernel)⟩, Or.inl rfl⟩
theorem flRX2_73 : FI RX2 73 2 1 := ⟨⟨by decide, by decide, rfl, gt_t 26 (by decide +kernel) (by decide +kernel)⟩, Or.inl rfl⟩
theorem flRX2_24 : FI RX2 24 2 2 := ⟨⟨by decide, by decide, rfl, gt_t 27 (by decide +kernel) (by decide +kernel)⟩, Or.inl rfl⟩
theorem flRX2_31 : FI RX2 31 2 3 := ⟨⟨by decide, by decide, rfl, gt_t 28 (by decide +kernel) (by decide +kernel)⟩, Or.inl rfl⟩
theorem flRX2_41 : FI RX2 41 2 4 := ⟨⟨by decide, by decide, rfl, gt_t 29 (by decide +kernel) (by decide +kernel)⟩, Or.inl rfl⟩
theorem flRX2_56 : FI RX2 56 2 5 := ⟨⟨by decide, by decide, rfl, gt_t 30 (by decide +kernel) (by decide +kernel)⟩, Or.inl rfl⟩
theorem flRX2_15 : FR RX2 15 2 6 := ⟨⟨by decide, by decide, rfl, gt_t 31 (by decide +kernel) (by decide +kernel)⟩, Or.inr ⟨_, rfl⟩⟩
theorem flRX0_45 : FI RX0 45 0 0 := ⟨⟨by decide, by decide, rfl, gt_t 55 (by decide +kernel) (by decide +kernel)⟩, Or.inl rfl⟩
theorem flRX2_66 : FI RX2 66 0 0 := ⟨⟨by decide, by decide, rfl, gt_t 56 (by decide +kernel) (by decide +kernel)⟩, Or.inl rfl⟩
theorem flRX3_149 : FI RX3 149 0 0 := ⟨⟨by decide, by decide, rfl, gt_t 57 (by decide +kernel) (by decide +kernel)⟩, Or.inl rfl⟩
theorem flRX0_49 : FI RX0 49 0 1 := ⟨⟨by decide, by decide, rfl, gt_t 58 (by decide +kernel) (by decide +kernel)⟩, Or.inl rfl⟩
theorem flRX1_55 : FI RX1 55 0 1 := ⟨⟨by decide, by decide, rfl, gt_t 59 (by decide +kernel) (by decide +kernel)⟩, Or.inl rfl⟩
theorem flRX3_185 : FI RX3 185 0 1 := ⟨⟨by decide, by decide, rfl, gt_t 60 (by decide +kernel) (by decide +kernel)⟩, Or.inl rfl⟩
theorem flRX0_52 : FI RX0 52 0 2 := ⟨⟨by decide, by decide, rfl, gt_t 61 (by decide +kernel) (by decide +kernel)⟩, Or.inr rfl⟩
theorem flRX0_9 : FR RX0 9 0 3 := ⟨⟨by decide, by decide, rfl, gt_t 62 (by decide +kernel) (by decide +kernel)⟩, Or.inr ⟨_, rfl⟩⟩
theorem flRX3_91 : FR RX3 91 0 3 := ⟨⟨by decide, by decide, rfl, gt_t 63 (by decide +kernel) (by decide +kernel)⟩, Or.inr ⟨_, rfl⟩⟩
theorem flRX0_15 : FR RX0 15 0 4 := ⟨⟨by decide, by decide, rfl, gt_t 64 (by decide +kernel) (by decide +kernel)⟩, Or.inr ⟨_, rfl⟩⟩
theorem flRX3_94 : FR RX3 94 0 4 := ⟨⟨by decide, by decide, rfl, gt_t 65 (by decide +kernel) (by decide +kernel)⟩, Or.inr ⟨_, rfl⟩⟩
theorem flRX0_56 : FI RX0 56 0 5 := ⟨⟨by decide, by decide, rfl, gt_t 66 (by decide +kernel) (by decide +kernel)⟩, Or.inl rfl⟩
theorem flRX1_46 : FI RX1 46 0 5 := ⟨⟨by decide, by decide, rfl, gt_t 67 (by decide +kernel) (by decide +kernel)⟩, Or.inl rfl⟩
theorem flRX3_146 : FI RX3 146 0 5 := ⟨⟨by decide, by decide, rfl, gt_t 68 (by decide +kernel) (by decide +kernel)⟩, Or.inl rfl⟩
theorem flRX0_18 : FR RX0 18 0 6 := ⟨⟨by decide, by decide, rfl, gt_t 69 (by decide +kernel) (by decide +kernel)⟩, Or.inr ⟨_, rfl⟩⟩
theorem flRX3_100 : FR RX3 100 0 6 := ⟨⟨by decide, by decide, rfl, gt_t 70 (by decide +kernel) (by decide +kernel)⟩, Or.inr ⟨_, rfl⟩⟩
theorem flRX0_21 : FR RX0 21 0 7 := ⟨⟨by decide, by decide, rfl, gt_t 71 (by decide +kernel) (by decide +kernel)⟩, Or.inr ⟨_, rfl⟩⟩
theorem flRX1_31 : FR RX1 31 0 7 := ⟨⟨by decide, by decide, rfl, gt_t 72 (by decide +kernel) (by decide +kernel)⟩, Or.inr ⟨_, rfl⟩⟩
theorem flRX0_24 : FR RX0 24 0 8 := ⟨⟨by decide, by decide, rfl, gt_t 73 (by decide +kernel) (by decide +kernel)⟩, Or.inr ⟨_, rfl⟩⟩
theorem flRX3_106 : FR RX3 106 0 8 := ⟨⟨by decide, by decide, rfl, gt_t 74 (by decide +kernel) (by decide +kernel)⟩, Or.inr ⟨_, rfl⟩⟩
theorem flRX0_27 : FR RX0 27 0 9 := ⟨⟨by decide, by decide, rfl, gt_t 75 (by decide +kernel) (by decide +kernel)⟩, Or.inr ⟨_, rfl⟩⟩
theorem flRX3_109 : FR RX3 109 0 9 := ⟨⟨by decide, by decide, rfl, gt_t 76 (by decide +kernel) (by decide +kernel)⟩, Or.inr ⟨_, rfl⟩⟩
theorem flRX0_59 : FI RX0 59 0 10 := ⟨⟨by decide, by decide, rfl, gt_t 77 (by decide +kernel) (by decide +kernel)⟩, Or.inl rfl⟩
theorem flRX3_118 : FI RX3 118 0 10 := ⟨⟨by decide, by decide, rfl, gt_t 78 (by decide +kernel) (by decide +kernel)⟩, Or.inl rfl⟩
theorem flRX0_30 : FR RX0 30 0 11 := ⟨⟨by decide, by decide, rfl, gt_t 79 (by decide +kernel) (by decide +kernel)⟩, Or.inr ⟨_, rfl⟩⟩
theorem flRX3_121 : FR RX3 121 0 11 := ⟨⟨by decide, by decide, rfl, gt_t 80 (by decide +kernel) (by decide +kernel)⟩, Or.inr ⟨_, rfl⟩⟩
theorem flRX0_33 : FR RX0 33 0 12 := ⟨⟨by decide, by decide, rfl, gt_t 81 (by decide +kernel) (by decide +kernel)⟩, Or.inr ⟨_, rfl⟩⟩
theorem flRX3_124 : FR RX3 124 0 12 := ⟨⟨by decide, by decide, rfl, gt_t 82 (by decide +kernel) (by decide +kernel)⟩, Or.inr ⟨_, rfl⟩⟩
theorem flRX0_36 : FR RX0 36 0 13 := ⟨⟨by decide, by decide, rfl, gt_t 83 (by decide +kernel) (by decide +kernel)⟩, Or.inr ⟨_, rfl⟩⟩
theorem flRX3_127 : FR RX3 127 0 13 := ⟨⟨by decide, by decide, rfl, gt_t 84 (by decide +kernel) (by decide +kernel)⟩, Or.inr ⟨_, rfl⟩⟩
theorem flRX0_39 : FR RX0 39 0 14 := ⟨⟨by decide, by decide, rfl, gt_t 85 (by decide +kernel) (by decide +kernel)⟩, Or.inr ⟨_, rfl⟩⟩
theorem flRX3_244 : FR RX3 244 0 14 := ⟨⟨by decide, by decide, rfl, gt_t 86 (by decide +kernel) (by decide +kernel)⟩, Or.inr ⟨_, rfl⟩⟩
theorem flRX0_42 : FR RX0 42 0 15 := ⟨⟨by decide, by decide, rfl, gt_t 87 (by decide +kernel) (by decide +kernel)⟩, Or.inr ⟨_, rfl⟩⟩
theorem flRX3_206 : FR RX3 206 0 15 := ⟨⟨by decide, by decide, rfl, gt_t 88 (by decide +kernel) (by decide +kernel)⟩, Or.inr ⟨_, rfl⟩⟩
theorem flRX1_21 : FI RX1 21 1 0 := ⟨⟨by decide, by decide, rfl, gt_t 128 (by decide +kernel) (by decide +kernel)⟩, Or.inl rfl⟩
theorem flRX3_130 : FI RX3 130 1 0 := ⟨⟨by decide, by decide, rfl, gt_t 129 (by decide +kernel) (by decide +kernel)⟩, Or.inl rfl⟩
theorem flRX1_25 : FI RX1 25 1 1 := ⟨⟨by decide, by decide, rfl, gt_t 130 (by decide +kernel) (by decide +kernel)⟩, Or.inl rfl⟩
theorem flRX3_133 : FI RX3 133 1 1 := ⟨⟨by decide, by decide, rfl, gt_t 131 (by decide +kernel) (by decide +kernel)⟩, Or.inl rfl⟩
theorem flRX0_96 : FI RX0 96 1 1 := ⟨⟨by decide, by decide, rfl, gt_t 132 (by decide +kernel) (by decide +kernel)⟩, Or.inl rfl⟩
theorem flRX1_28 : FI RX1 28 1 2 := ⟨⟨by decide, by decide, rfl, gt_t 133 (by decide +kernel) (by decide +kernel)⟩, Or.inl rfl⟩
theorem flRX3_136 : FI RX3 136 1 2 := ⟨⟨by decide, by decide, rfl, gt_t 134 (by decide +kernel) (by decide +kernel)⟩, Or.inl rfl⟩
theorem flRX1_9 : FR RX1 9 1 3 := ⟨⟨by decide, by decide, rfl, gt_t 135 (by decide +kernel) (by decide +kernel)⟩, Or.inr ⟨_, rfl⟩⟩
theorem flRX3_103 : FR RX3 103 1 3 := ⟨⟨by decide, by decide, rfl, gt_t 136 (by decide +kernel) (by decide +kernel)⟩, Or.inr ⟨_, rfl⟩⟩
theorem flRX0_99 : FR RX0 99 1 3 := ⟨⟨by decide, by decide, rfl, gt_t 137 (by decide +kernel) (by decide +kernel)⟩, Or.inr ⟨_, rfl⟩⟩
theorem flRX1_15 : FR RX1 15 1 4 := ⟨⟨by decide, by decide, rfl, gt_t 138 (by decide +kernel) (by decide +kernel)⟩, Or.inr ⟨_, rfl⟩⟩
theorem flRX3_112 : FR RX3 112 1 4 := ⟨⟨by decide, by decide, rfl, gt_t 139 (by decide +kernel) (by decide +kernel)⟩, Or.inr ⟨_, rfl⟩⟩
theorem flRX0_91 : FR RX0 91 1 4 := ⟨⟨by decide, by decide, rfl, gt_t 140 (by decide +kernel) (by decide +kernel)⟩, Or.inr ⟨_, rfl⟩⟩
theorem flRX1_18 : FR RX1 18 1 5 := ⟨⟨by decide, by decide, rfl, gt_t 141 (by decide +kernel) (by decide +kernel)⟩, Or.inr ⟨_, rfl⟩⟩
theorem flRX3_115 : FR RX3 115 1 5 := ⟨⟨by decide, by decide, rfl, gt_t 142 (by decide +kernel) (by decide +kernel)⟩, Or.inr ⟨_, rfl⟩⟩
theorem flRX3_12 : FR RX3 12 3 0 := ⟨⟨by decide, by decide, rfl, gt_t 239 (by decide +kernel) (by decide +kernel)⟩, Or.inl ⟨_, rfl⟩⟩
theorem flRX3_19 : FR RX3 19 3 1 := ⟨⟨by decide, by decide, rfl, gt_t 240 (by decide +kernel) (by decide +kernel)⟩, Or.inl ⟨_, rfl⟩⟩
theorem flRX3_23 : FR RX3 23 3 2 := ⟨⟨by decide, by decide, rfl, gt_t 241 (by decide +kernel) (by decide +kernel)⟩, Or.inl ⟨_, rfl⟩⟩
theorem flRX3_29 : FR RX3 29 3 3 := ⟨⟨by decide, by decide, rfl, gt_t 242 (by decide +kernel) (by decide +kernel)⟩, Or.inl ⟨_, rfl⟩⟩
theorem flRX3_33 : FR RX3 33 3 4 := ⟨⟨by decide, by decide, rfl, gt_t 243 (by decide +kernel) (by decide +kernel)⟩, Or.inl ⟨_, rfl⟩⟩
theorem flRX3_36 : FR RX3 36 3 5 := ⟨⟨by decide, by decide, rfl, gt_t 244 (by decide +kernel) (by decide +kernel)⟩, Or.inr ⟨_, rfl⟩⟩
theorem flRX3_159 : FI RX3 159 3 6 := ⟨⟨by decide, by decide, rfl, gt_t 245 (by decide +kernel) (by decide +kernel)⟩, Or.inl rfl⟩
theorem flRX3_81 : FI RX3 81 3 7 := ⟨⟨by decide, by decide, rfl, gt_t 246 (by decide +kernel) (by decide +kernel)⟩, Or.inl rfl⟩
theorem flRX3_40 : FR RX3 40 3 8 := ⟨⟨by decide, by decide, rfl, gt_t 247 (by decide +kernel) (by decide +kernel)⟩, Or.inr ⟨_, rfl⟩⟩
theorem flRX3_43 : FR RX3 43 3 9 := ⟨⟨by decide, by decide, rfl, gt_t 248 (by decide +kernel) (by decide +kernel)⟩, Or.inr ⟨_, rfl⟩⟩
theorem flRX3_47 : FR RX3 47 3 10 := ⟨⟨by decide, by decide, rfl, gt_t 249 (by decide +kernel) (by decide +kernel)⟩, Or.inr ⟨_, rfl⟩⟩
theorem flRX3_51 : FR RX3 51 3 11 := ⟨⟨by decide, by decide, rfl, gt_t 250 (by decide +kernel) (by decide +kernel)⟩, Or.inr ⟨_, rfl⟩⟩
theorem flRX3_84 : FI RX3 84 3 12 := ⟨⟨by decide, by decide, rfl, gt_t 251 (by decide +kernel) (by decide +kernel)⟩, Or.inl rfl⟩
theorem flRX3_54 : FR RX3 54 3 13 := ⟨⟨by decide, by decide, rfl, gt_t 252 (by decide +kernel) (by decide +kernel)⟩, Or.inr ⟨_, rfl⟩⟩
theorem flRX3_59 : FR RX3 59 3 14 := ⟨⟨by decide, by decide, rfl, gt_t 253 (by decide +kernel) (by decide +kernel)⟩, Or.inr ⟨_, rfl⟩⟩
theorem flRX3_62 : FR RX3 62 3 15 := ⟨⟨by decide, by decide, rfl, gt_t 254 (by decide +kernel) (by decide +kernel)⟩, Or.inr ⟨_, rfl⟩⟩
theorem flRX3_290 : FJ RX3 290 3 16 := ⟨⟨by decide, by decide, rfl, gt_t 255 (by decide +kernel) (by decide +kernel)⟩, rfl⟩
theorem flRX4_198 : FJ RX4 198 4 0 := ⟨⟨by decide, by decide, rfl, gt_t 618 (by decide +kernel) (by decide +kernel)⟩, rfl⟩
theorem flRX4_7 : FR RX4 7 4 1 := ⟨⟨by decide, by decide, rfl, gt_t 619 (by decide +kernel) (by decide +kernel)⟩, Or.inr ⟨_, rfl⟩⟩
theorem flRX4_71 : FI RX4 71 4 2 := ⟨⟨by decide, by decide, rfl, gt_t 620 (by decide +kernel) (by decide +kernel)⟩, Or.inl rfl⟩
theorem flRX4_13 : FR RX4 13 4 3 := ⟨⟨by decide, by decide, rfl, gt_t 621 (by decide +kernel) (by decide +kernel)⟩, Or.inr ⟨_, rfl⟩⟩
theorem flRX4_16 : FR RX4 16 4 4 := ⟨⟨by decide, by decide, rfl, gt_t 622 (by decide +kernel) (by decide +kernel)⟩, Or.inr ⟨_, rfl⟩⟩
theorem flRX4_19 : FR RX4 19 4 5 := ⟨⟨by decide, by decide, rfl, gt_t 623 (by decide +kernel) (by decide +kernel)⟩, Or.inr ⟨_, rfl⟩⟩
theorem flRX4_22 : FR RX4 22 4 6 := ⟨⟨by decide, by decide, rfl, gt_t 624 (by decide +kernel) (by decide +kernel)⟩, Or.inr ⟨_, rfl⟩⟩
theorem flRX4_127 : FI RX4 127 4 7 := ⟨⟨by decide, by decide, rfl, gt_t 625 (by decide +kernel) (by decide +kernel)⟩, Or.inl rfl⟩
theorem flRX4_25 : FR RX4 25 4 8 := ⟨⟨by decide, by decide, rfl, gt_t 626 (by decide +kernel) (by decide +kernel)⟩, Or.inr ⟨_, rfl⟩⟩
theorem flRX4_28 : FR RX4 28 4 9 := ⟨⟨by decide, by decide, rfl, gt_t 627 (by decide +kernel) (by decide +kernel)⟩, Or.inr ⟨_, rfl⟩⟩
theorem flRX4_32 : FR RX4 32 4 10 := ⟨⟨by decide, by decide, rfl, gt_t 628 (by decide +kernel) (by decide +kernel)⟩, Or.inr ⟨_, rfl⟩⟩
theorem flRX4_130 : FI RX4 130 4 11 := ⟨⟨by decide, by decide, rfl, gt_t 629 (by decide +kernel) (by decide +kernel)⟩, Or.inl rfl⟩
theorem flRX4_74 : FI RX4 74 4 12 := ⟨⟨by decide, by decide, rfl, gt_t 630 (by decide +kernel) (by decide +kernel)⟩, Or.inl rfl⟩
theorem flRX4_91 : FI RX4 91 4 13 := ⟨⟨by decide, by decide, rfl, gt_t 631 (by decide +kernel) (by decide +kernel)⟩, Or.inl rfl⟩
theorem flRX4_81 : FI RX4 81 4 14 := ⟨⟨by decide, by decide, rfl, gt_t 632 (by decide +kernel) (by decide +kernel)⟩, Or.inl rfl⟩
theorem flRX4_94 : FI RX4 94 4 15 := ⟨⟨by decide, by decide, rfl, gt_t 633 (by decide +kernel) (by decide +kernel)⟩, Or.inl rfl⟩
theorem flRX4_35 : FI RX4 35 4 16 := ⟨⟨by decide, by decide, rfl, gt_t 634 (by decide +kernel) (by decide +kernel)⟩, Or.inl rfl⟩
theorem flRX4_39 : FI RX4 39 4 17 := ⟨⟨by decide, by decide, rfl, gt_t 635 (by decide +kernel) (by decide +kernel)⟩, Or.inl rfl⟩
theorem flRX4_42 : FI RX4 42 4 18 := ⟨⟨by decide, by decide, rfl, gt_t 636 (by decide +kernel) (by decide +kernel)⟩, Or.inl rfl⟩
theorem flRX4_45 : FI RX4 45 4 19 := ⟨⟨by decide, by decide, rfl, gt_t 637 (by decide +kernel) (by decide +kernel)⟩, Or.inl rfl⟩
theorem flRX4_145 : FI RX4 145 4 20 := ⟨⟨by decide, by decide, rfl, gt_t 638 (by decide +kernel) (by decide +kernel)⟩, Or.inl rfl⟩
theorem flRX4_48 : FR RX4 48 4 21 := ⟨⟨by decide, by decide, rfl, gt_t 639 (by decide +kernel) (by decide +kernel)⟩, Or.inr ⟨_, rfl⟩⟩
theorem flRX4_51 : FR RX4 51 4 22 := ⟨⟨by decide, by decide, rfl, gt_t 640 (by decide +kernel) (by decide +kernel)⟩, Or.inr ⟨_, rfl⟩⟩
theorem flRX4_54 : FR RX4 54 4 23 := ⟨⟨by decide, by decide, rfl, gt_t 641 (by decide +kernel) (by decide +kernel)⟩, Or.inr ⟨_, rfl⟩⟩
theorem flRX4_57 : FR RX4 57 4 24 := ⟨⟨by decide, by decide, rfl, gt_t 642 (by decide +kernel) (by decide +kernel)⟩, Or.inr ⟨_, rfl⟩⟩
theorem flRX4_177 : FI RX4 177 4 25 := ⟨⟨by decide, by decide, rfl, gt_t 643 (by decide +kernel) (by decide +kernel)⟩, Or.inl rfl⟩
theorem lkR_law_9 : LI R_law 9 mX3_init := ⟨rfl, gt_t 11 (by decide +kernel) (by decide +kernel), gt_t 12 (by decide +kernel) (by decide +kernel)⟩
theorem lkRX3_3 : Cond.methodLink RX3 3 Lib.objectInit ∈ gtbl := gt_t 14 (by decide +kernel) (by decide +kernel)
theorem lkRX3_11 : LIN RX3 11 mX2_init := ⟨rfl, by decide +kernel, gt_t 20 (by decide +kernel) (by decide +kernel)⟩
theorem lkRX2_3 : Cond.methodLink RX2 3 Lib.objectInit ∈ gtbl := gt_t 22 (by decide +kernel) (by decide +kernel)
theorem lkRX3_18 : LIN RX3 18 mX0_init := ⟨rfl, by decide +kernel, gt_t 52 (by decide +kernel) (by decide +kernel)⟩
theorem lkRX0_3 : Cond.methodLink RX0 3 Lib.objectInit ∈ gtbl := gt_t 54 (by decide +kernel) (by decide +kernel)
theorem lkRX3_28 : LIN RX3 28 mX1_init := ⟨rfl, by decide +kernel, gt_t 125 (by decide +kernel) (by decide +kernel)⟩
theorem lkRX1_3 : Cond.methodLink RX1 3 Lib.objectInit ∈ gtbl := gt_t 127 (by decide +kernel) (by decide +kernel)
theorem lkRX3_65 : LV RX3 65 mX2_readInto 2 := ⟨by decide, rfl, gt_t 159 (by decide +kernel) (by decide +kernel), gt_t 160 (by decide +kernel) (by decide +kernel), gt_t 161 (by decide +kernel) (by decide +kernel)⟩
theorem lkRX2_19 : LV RX2 19 mX0_restart 0 := ⟨by decide, rfl, gt_t 163 (by decide +kernel) (by decide +kernel), gt_t 164 (by decide +kernel) (by decide +kernel), gt_t 165 (by decide +kernel) (by decide +kernel)⟩
theorem lkRX2_28 : LV RX2 28 mX2_nextToken 2 := ⟨by decide, rfl, gt_t 167 (by decide +kernel) (by decide +kernel), gt_t 169 (by decide +kernel) (by decide +kernel), gt_s 0 (by decide +kernel) (by decide +kernel)⟩
theorem lkRX2_76 : LSt RX2 76 mX2_isDigit := ⟨gt_t 171 (by decide +kernel) (by decide +kernel), gt_t 172 (by decide +kernel) (by decide +kernel)⟩
theorem lkRX2_80 : LV RX2 80 mX2_readNumber 2 := ⟨by decide, rfl, gt_t 174 (by decide +kernel) (by decide +kernel), gt_t 176 (by decide +kernel) (by decide +kernel), gt_s 1 (by decide +kernel) (by decide +kernel)⟩
theorem lkRX2_83 : Cond.methodLink RX2 83 Lib.Math.min.name ∈ gtbl := gt_t 178 (by decide +kernel) (by decide +kernel)
theorem lkRX2_34 : LV RX2 34 mX0_settle 0 := ⟨by decide, rfl, gt_t 181 (by decide +kernel) (by decide +kernel), gt_t 182 (by decide +kernel) (by decide +kernel), gt_t 183 (by decide +kernel) (by decide +kernel)⟩
theorem lkRX0_69 : LSN RX0 69 mX3_has := ⟨by decide +kernel, gt_t 186 (by decide +kernel) (by decide +kernel)⟩
theorem lkRX0_73 : LV RX0 73 mX0_noisesOf 0 := ⟨by decide, rfl, gt_t 188 (by decide +kernel) (by decide +kernel), gt_t 189 (by decide +kernel) (by decide +kernel), gt_t 190 (by decide +kernel) (by decide +kernel)⟩
theorem lkRX0_77 : LV RX0 77 mX0_wokenByAll 0 := ⟨by decide, rfl, gt_t 192 (by decide +kernel) (by decide +kernel), gt_t 193 (by decide +kernel) (by decide +kernel), gt_t 194 (by decide +kernel) (by decide +kernel)⟩
theorem lkRX0_110 : LV RX0 110 mX0_wokenBy 0 := ⟨by decide, rfl, gt_t 196 (by decide +kernel) (by decide +kernel), gt_t 197 (by decide +kernel) (by decide +kernel), gt_t 198 (by decide +kernel) (by decide +kernel)⟩
theorem lkRX2_37 : LV RX2 37 mX2_readItem 2 := ⟨by decide, rfl, gt_t 200 (by decide +kernel) (by decide +kernel), gt_t 202 (by decide +kernel) (by decide +kernel), gt_s 2 (by decide +kernel) (by decide +kernel)⟩
theorem lkRX2_44 : LV RX2 44 mX0_mayComeNext 0 := ⟨by decide, rfl, gt_t 204 (by decide +kernel) (by decide +kernel), gt_t 205 (by decide +kernel) (by decide +kernel), gt_t 206 (by decide +kernel) (by decide +kernel)⟩
theorem lkRX2_48 : LSt RX2 48 mX2_howManyNumbers := ⟨gt_t 208 (by decide +kernel) (by decide +kernel), gt_t 209 (by decide +kernel) (by decide +kernel)⟩
theorem lkRX2_52 : LV RX2 52 mX2_mayStand 2 := ⟨by decide, rfl, gt_t 211 (by decide +kernel) (by decide +kernel), gt_t 213 (by decide +kernel) (by decide +kernel), gt_s 3 (by decide +kernel) (by decide +kernel)⟩
theorem lkRX2_63 : LV RX2 63 mX2_isWithin 2 := ⟨by decide, rfl, gt_t 215 (by decide +kernel) (by decide +kernel), gt_t 217 (by decide +kernel) (by decide +kernel), gt_s 4 (by decide +kernel) (by decide +kernel)⟩
theorem lkRX2_69 : LV RX2 69 mX2_mayStandForCitizen 2 := ⟨by decide, rfl, gt_t 219 (by decide +kernel) (by decide +kernel), gt_t 221 (by decide +kernel) (by decide +kernel), gt_s 5 (by decide +kernel) (by decide +kernel)⟩
theorem lkRX2_59 : LV RX2 59 mX0_tell 0 := ⟨by decide, rfl, gt_t 223 (by decide +kernel) (by decide +kernel), gt_t 224 (by decide +kernel) (by decide +kernel), gt_t 225 (by decide +kernel) (by decide +kernel)⟩
theorem lkRX0_62 : LV RX0 62 mX0_tellCitizen 0 := ⟨by decide, rfl, gt_t 227 (by decide +kernel) (by decide +kernel), gt_t 229 (by decide +kernel) (by decide +kernel), gt_s 6 (by decide +kernel) (by decide +kernel)⟩
theorem lkRX0_66 : LV RX0 66 mX0_tellNoise 0 := ⟨by decide, rfl, gt_t 231 (by decide +kernel) (by decide +kernel), gt_t 233 (by decide +kernel) (by decide +kernel), gt_s 7 (by decide +kernel) (by decide +kernel)⟩
theorem lkRX3_69 : LV RX3 69 mX1_begin 1 := ⟨by decide, rfl, gt_t 235 (by decide +kernel) (by decide +kernel), gt_t 236 (by decide +kernel) (by decide +kernel), gt_t 237 (by decide +kernel) (by decide +kernel)⟩
theorem lkR_law_13 : LV R_law 13 mX3_type 3 := ⟨by decide, rfl, gt_t 292 (by decide +kernel) (by decide +kernel), gt_t 293 (by decide +kernel) (by decide +kernel), gt_t 294 (by decide +kernel) (by decide +kernel)⟩
theorem lkR_law_18 : LV R_law 18 mX3_clear 3 := ⟨by decide, rfl, gt_t 296 (by decide +kernel) (by decide +kernel), gt_t 297 (by decide +kernel) (by decide +kernel), gt_t 298 (by decide +kernel) (by decide +kernel)⟩
theorem lkR_law_23 : LV R_law 23 mX3_city 3 := ⟨by decide, rfl, gt_t 300 (by decide +kernel) (by decide +kernel), gt_t 301 (by decide +kernel) (by decide +kernel), gt_t 302 (by decide +kernel) (by decide +kernel)⟩
theorem lkR_law_27 : LV R_law 27 mX3_district 3 := ⟨by decide, rfl, gt_t 304 (by decide +kernel) (by decide +kernel), gt_t 305 (by decide +kernel) (by decide +kernel), gt_t 306 (by decide +kernel) (by decide +kernel)⟩
theorem lkRX3_87 : LV RX3 87 mX3_isDistrict 3 := ⟨by decide, rfl, gt_t 308 (by decide +kernel) (by decide +kernel), gt_t 310 (by decide +kernel) (by decide +kernel), gt_s 8 (by decide +kernel) (by decide +kernel)⟩
theorem lkR_law_32 : LV R_law 32 mX3_citizen 3 := ⟨by decide, rfl, gt_t 312 (by decide +kernel) (by decide +kernel), gt_t 313 (by decide +kernel) (by decide +kernel), gt_t 314 (by decide +kernel) (by decide +kernel)⟩
theorem lkRX3_97 : LV RX3 97 mX3_isCitizen 3 := ⟨by decide, rfl, gt_t 316 (by decide +kernel) (by decide +kernel), gt_t 318 (by decide +kernel) (by decide +kernel), gt_s 9 (by decide +kernel) (by decide +kernel)⟩
theorem lkR_law_36 : LV R_law 36 mX3_noise 3 := ⟨by decide, rfl, gt_t 320 (by decide +kernel) (by decide +kernel), gt_t 321 (by decide +kernel) (by decide +kernel), gt_t 322 (by decide +kernel) (by decide +kernel)⟩
theorem lkR_law_40 : LV R_law 40 mX3_now 3 := ⟨by decide, rfl, gt_t 324 (by decide +kernel) (by decide +kernel), gt_t 325 (by decide +kernel) (by decide +kernel), gt_t 326 (by decide +kernel) (by decide +kernel)⟩
theorem lkRX3_139 : LV RX3 139 mX3_sleptMost 3 := ⟨by decide, rfl, gt_t 328 (by decide +kernel) (by decide +kernel), gt_t 330 (by decide +kernel) (by decide +kernel), gt_s 10 (by decide +kernel) (by decide +kernel)⟩
theorem lkRX3_143 : LV RX3 143 mX3_sleptLeast 3 := ⟨by decide, rfl, gt_t 332 (by decide +kernel) (by decide +kernel), gt_t 334 (by decide +kernel) (by decide +kernel), gt_s 11 (by decide +kernel) (by decide +kernel)⟩
theorem lkR_law_44 : LV R_law 44 mX3_calls 3 := ⟨by decide, rfl, gt_t 336 (by decide +kernel) (by decide +kernel), gt_t 337 (by decide +kernel) (by decide +kernel), gt_t 338 (by decide +kernel) (by decide +kernel)⟩
theorem lkRX3_152 : LV RX3 152 mX3_remember 3 := ⟨by decide, rfl, gt_t 340 (by decide +kernel) (by decide +kernel), gt_t 342 (by decide +kernel) (by decide +kernel), gt_s 12 (by decide +kernel) (by decide +kernel)⟩
theorem lkRX3_162 : LV RX3 162 mX1_become 1 := ⟨by decide, rfl, gt_t 344 (by decide +kernel) (by decide +kernel), gt_t 345 (by decide +kernel) (by decide +kernel), gt_t 346 (by decide +kernel) (by decide +kernel)⟩
theorem lkRX1_36 : Cond.methodLink RX1 36 arraycopyName ∈ gtbl := gt_t 348 (by decide +kernel) (by decide +kernel)
theorem lkRX3_166 : Cond.methodLink RX3 166 Lib.Math.min.name ∈ gtbl := gt_t 351 (by decide +kernel) (by decide +kernel)
theorem lkR_law_48 : LV R_law 48 mX3_hour 3 := ⟨by decide, rfl, gt_t 352 (by decide +kernel) (by decide +kernel), gt_t 353 (by decide +kernel) (by decide +kernel), gt_t 354 (by decide +kernel) (by decide +kernel)⟩
theorem lkRX3_155 : LV RX3 155 mX3_goBy 3 := ⟨by decide, rfl, gt_t 356 (by decide +kernel) (by decide +kernel), gt_t 358 (by decide +kernel) (by decide +kernel), gt_s 13 (by decide +kernel) (by decide +kernel)⟩
theorem lkRX3_172 : LV RX3 172 mX0_asleep 0 := ⟨by decide, rfl, gt_t 360 (by decide +kernel) (by decide +kernel), gt_t 361 (by decide +kernel) (by decide +kernel), gt_t 362 (by decide +kernel) (by decide +kernel)⟩
theorem lkRX0_106 : LV RX0 106 mX0_lyingDown 0 := ⟨by decide, rfl, gt_t 364 (by decide +kernel) (by decide +kernel), gt_t 365 (by decide +kernel) (by decide +kernel), gt_t 366 (by decide +kernel) (by decide +kernel)⟩
theorem lkRX0_102 : LV RX0 102 mX0_couldLieDown 0 := ⟨by decide, rfl, gt_t 368 (by decide +kernel) (by decide +kernel), gt_t 369 (by decide +kernel) (by decide +kernel), gt_t 370 (by decide +kernel) (by decide +kernel)⟩
theorem lkRX0_80 : LSt RX0 80 mJ6_bitCount_0f7a4 := ⟨gt_t 372 (by decide +kernel) (by decide +kernel), gt_t 373 (by decide +kernel) (by decide +kernel)⟩
theorem lkRX3_175 : LV RX3 175 mX1_pass 1 := ⟨by decide, rfl, gt_t 378 (by decide +kernel) (by decide +kernel), gt_t 379 (by decide +kernel) (by decide +kernel), gt_t 380 (by decide +kernel) (by decide +kernel)⟩
theorem lkRX1_42 : LSN RX1 42 mX3_tire := ⟨by decide +kernel, gt_t 383 (by decide +kernel) (by decide +kernel)⟩
theorem lkRX3_223 : LSt RX3 223 mX3_has := ⟨gt_t 385 (by decide +kernel) (by decide +kernel), gt_t 186 (by decide +kernel) (by decide +kernel)⟩
theorem lkRX3_226 : Cond.methodLink RX3 226 Lib.Math.max.name ∈ gtbl := gt_t 386 (by decide +kernel) (by decide +kernel)
theorem lkRX1_49 : LSt RX1 49 mJ6_bitCount_0f7a4 := ⟨gt_t 389 (by decide +kernel) (by decide +kernel), gt_t 373 (by decide +kernel) (by decide +kernel)⟩
theorem lkR_law_52 : LV R_law 52 mX3_undo 3 := ⟨by decide, rfl, gt_t 390 (by decide +kernel) (by decide +kernel), gt_t 391 (by decide +kernel) (by decide +kernel), gt_t 392 (by decide +kernel) (by decide +kernel)⟩
theorem lkR_law_56 : LV R_law 56 mX3_asleepIn 3 := ⟨by decide, rfl, gt_t 394 (by decide +kernel) (by decide +kernel), gt_t 395 (by decide +kernel) (by decide +kernel), gt_t 396 (by decide +kernel) (by decide +kernel)⟩
theorem lkR_law_60 : LV R_law 60 mX3_lapse 3 := ⟨by decide, rfl, gt_t 398 (by decide +kernel) (by decide +kernel), gt_t 399 (by decide +kernel) (by decide +kernel), gt_t 400 (by decide +kernel) (by decide +kernel)⟩
theorem lkRX3_188 : LV RX3 188 mX3_firstLapse 3 := ⟨by decide, rfl, gt_t 402 (by decide +kernel) (by decide +kernel), gt_t 404 (by decide +kernel) (by decide +kernel), gt_s 14 (by decide +kernel) (by decide +kernel)⟩
theorem lkRX3_191 : LV RX3 191 mX3_lapses 3 := ⟨by decide, rfl, gt_t 406 (by decide +kernel) (by decide +kernel), gt_t 408 (by decide +kernel) (by decide +kernel), gt_s 15 (by decide +kernel) (by decide +kernel)⟩
theorem lkRX3_179 : LSt RX3 179 mJ6_bitCount_0f7a4 := ⟨gt_t 410 (by decide +kernel) (by decide +kernel), gt_t 373 (by decide +kernel) (by decide +kernel)⟩
theorem lkR_law_64 : LV R_law 64 mX3_callUp 3 := ⟨by decide, rfl, gt_t 411 (by decide +kernel) (by decide +kernel), gt_t 412 (by decide +kernel) (by decide +kernel), gt_t 413 (by decide +kernel) (by decide +kernel)⟩
theorem lkRX3_193 : Cond.methodLink RX3 193 arraycopyName ∈ gtbl := gt_t 415 (by decide +kernel) (by decide +kernel)
theorem lkRX3_199 : LV RX3 199 mX3_enoughInEach 3 := ⟨by decide, rfl, gt_t 416 (by decide +kernel) (by decide +kernel), gt_t 418 (by decide +kernel) (by decide +kernel), gt_s 16 (by decide +kernel) (by decide +kernel)⟩
theorem lkRX3_209 : LV RX3 209 mX3_hourAhead 3 := ⟨by decide, rfl, gt_t 420 (by decide +kernel) (by decide +kernel), gt_t 422 (by decide +kernel) (by decide +kernel), gt_s 17 (by decide +kernel) (by decide +kernel)⟩
theorem lkRX3_212 : LV RX3 212 mX0_tiredOf 0 := ⟨by decide, rfl, gt_t 424 (by decide +kernel) (by decide +kernel), gt_t 425 (by decide +kernel) (by decide +kernel), gt_t 426 (by decide +kernel) (by decide +kernel)⟩
theorem lkRX3_216 : LV RX3 216 mX0_bedded 0 := ⟨by decide, rfl, gt_t 428 (by decide +kernel) (by decide +kernel), gt_t 429 (by decide +kernel) (by decide +kernel), gt_t 430 (by decide +kernel) (by decide +kernel)⟩
theorem lkRX0_85 : Cond.methodLink RX0 85 Lib.Math.min.name ∈ gtbl := gt_t 432 (by decide +kernel) (by decide +kernel)
theorem lkRX3_202 : LV RX3 202 mX3_callUpFrom 3 := ⟨by decide, rfl, gt_t 433 (by decide +kernel) (by decide +kernel), gt_t 435 (by decide +kernel) (by decide +kernel), gt_s 18 (by decide +kernel) (by decide +kernel)⟩
theorem lkRX3_219 : LSt RX3 219 mX3_tire := ⟨gt_t 437 (by decide +kernel) (by decide +kernel), gt_t 383 (by decide +kernel) (by decide +kernel)⟩
theorem lkR_law_68 : LV R_law 68 mX3_bears 3 := ⟨by decide, rfl, gt_t 438 (by decide +kernel) (by decide +kernel), gt_t 439 (by decide +kernel) (by decide +kernel), gt_t 440 (by decide +kernel) (by decide +kernel)⟩
theorem lkR_law_72 : LV R_law 72 mX3_cart 3 := ⟨by decide, rfl, gt_t 442 (by decide +kernel) (by decide +kernel), gt_t 443 (by decide +kernel) (by decide +kernel), gt_t 444 (by decide +kernel) (by decide +kernel)⟩
theorem lkRX3_229 : LV RX3 229 mX3_wakingCost 3 := ⟨by decide, rfl, gt_t 446 (by decide +kernel) (by decide +kernel), gt_t 448 (by decide +kernel) (by decide +kernel), gt_s 19 (by decide +kernel) (by decide +kernel)⟩
theorem lkRX3_237 : LV RX3 237 mX0_wokenBy 0 := ⟨by decide, rfl, gt_t 450 (by decide +kernel) (by decide +kernel), gt_t 197 (by decide +kernel) (by decide +kernel), gt_t 198 (by decide +kernel) (by decide +kernel)⟩
theorem lkRX3_233 : LV RX3 233 mX3_driveOn 3 := ⟨by decide, rfl, gt_t 451 (by decide +kernel) (by decide +kernel), gt_t 453 (by decide +kernel) (by decide +kernel), gt_s 20 (by decide +kernel) (by decide +kernel)⟩
theorem lkR_law_77 : LV R_law 77 mX3_drum 3 := ⟨by decide, rfl, gt_t 455 (by decide +kernel) (by decide +kernel), gt_t 456 (by decide +kernel) (by decide +kernel), gt_t 457 (by decide +kernel) (by decide +kernel)⟩
theorem lkR_law_81 : LV R_law 81 mX3_wants 3 := ⟨by decide, rfl, gt_t 459 (by decide +kernel) (by decide +kernel), gt_t 460 (by decide +kernel) (by decide +kernel), gt_t 461 (by decide +kernel) (by decide +kernel)⟩
theorem lkRX3_240 : LV RX3 240 mX0_couldLieDown 0 := ⟨by decide, rfl, gt_t 463 (by decide +kernel) (by decide +kernel), gt_t 369 (by decide +kernel) (by decide +kernel), gt_t 370 (by decide +kernel) (by decide +kernel)⟩
theorem lkR_law_85 : LV R_law 85 mX3_counted 3 := ⟨by decide, rfl, gt_t 464 (by decide +kernel) (by decide +kernel), gt_t 465 (by decide +kernel) (by decide +kernel), gt_t 466 (by decide +kernel) (by decide +kernel)⟩
theorem lkR_law_89 : LV R_law 89 mX3_forget 3 := ⟨by decide, rfl, gt_t 468 (by decide +kernel) (by decide +kernel), gt_t 469 (by decide +kernel) (by decide +kernel), gt_t 470 (by decide +kernel) (by decide +kernel)⟩
theorem lkR_law_93 : LV R_law 93 mX3_sham 3 := ⟨by decide, rfl, gt_t 472 (by decide +kernel) (by decide +kernel), gt_t 473 (by decide +kernel) (by decide +kernel), gt_t 474 (by decide +kernel) (by decide +kernel)⟩
theorem lkRX3_247 : LV RX3 247 mX3_makesCountsSo 3 := ⟨by decide, rfl, gt_t 476 (by decide +kernel) (by decide +kernel), gt_t 478 (by decide +kernel) (by decide +kernel), gt_s 21 (by decide +kernel) (by decide +kernel)⟩
theorem lkRX3_250 : LV RX3 250 mX3_lastCounted 3 := ⟨by decide, rfl, gt_t 480 (by decide +kernel) (by decide +kernel), gt_t 482 (by decide +kernel) (by decide +kernel), gt_s 22 (by decide +kernel) (by decide +kernel)⟩
theorem lkRX3_253 : LV RX3 253 mX3_isAsCounted 3 := ⟨by decide, rfl, gt_t 484 (by decide +kernel) (by decide +kernel), gt_t 486 (by decide +kernel) (by decide +kernel), gt_s 23 (by decide +kernel) (by decide +kernel)⟩
theorem lkR_law_97 : LV R_law 97 mX3_odds 3 := ⟨by decide, rfl, gt_t 488 (by decide +kernel) (by decide +kernel), gt_t 489 (by decide +kernel) (by decide +kernel), gt_t 490 (by decide +kernel) (by decide +kernel)⟩
theorem lkRX3_256 : LV RX3 256 mX0_noisesOf 0 := ⟨by decide, rfl, gt_t 492 (by decide +kernel) (by decide +kernel), gt_t 189 (by decide +kernel) (by decide +kernel), gt_t 190 (by decide +kernel) (by decide +kernel)⟩
theorem lkRX3_259 : LV RX3 259 mX0_lyingDown 0 := ⟨by decide, rfl, gt_t 493 (by decide +kernel) (by decide +kernel), gt_t 365 (by decide +kernel) (by decide +kernel), gt_t 366 (by decide +kernel) (by decide +kernel)⟩
theorem lkRX3_262 : LV RX3 262 mX0_wokenByAll 0 := ⟨by decide, rfl, gt_t 494 (by decide +kernel) (by decide +kernel), gt_t 193 (by decide +kernel) (by decide +kernel), gt_t 194 (by decide +kernel) (by decide +kernel)⟩
theorem lkRX3_265 : LSt RX3 265 mX3_power := ⟨gt_t 495 (by decide +kernel) (by decide +kernel), gt_t 496 (by decide +kernel) (by decide +kernel)⟩
theorem lkRX3_268 : LSt RX3 268 mX3_inLeastTerms := ⟨gt_t 498 (by decide +kernel) (by decide +kernel), gt_t 499 (by decide +kernel) (by decide +kernel)⟩
theorem lkR_law_101 : LV R_law 101 mX3_rate 3 := ⟨by decide, rfl, gt_t 501 (by decide +kernel) (by decide +kernel), gt_t 502 (by decide +kernel) (by decide +kernel), gt_t 503 (by decide +kernel) (by decide +kernel)⟩
theorem lkRX3_272 : LV RX3 272 mX3_asCitizen 3 := ⟨by decide, rfl, gt_t 506 (by decide +kernel) (by decide +kernel), gt_t 508 (by decide +kernel) (by decide +kernel), gt_s 24 (by decide +kernel) (by decide +kernel)⟩
theorem lkRX3_275 : LV RX3 275 mX3_asBaker 3 := ⟨by decide, rfl, gt_t 510 (by decide +kernel) (by decide +kernel), gt_t 512 (by decide +kernel) (by decide +kernel), gt_s 25 (by decide +kernel) (by decide +kernel)⟩
theorem lkRX3_278 : LV RX3 278 mX3_asDeputy 3 := ⟨by decide, rfl, gt_t 515 (by decide +kernel) (by decide +kernel), gt_t 517 (by decide +kernel) (by decide +kernel), gt_s 26 (by decide +kernel) (by decide +kernel)⟩
theorem lkRX3_281 : LV RX3 281 mX3_asGuard 3 := ⟨by decide, rfl, gt_t 520 (by decide +kernel) (by decide +kernel), gt_t 522 (by decide +kernel) (by decide +kernel), gt_s 27 (by decide +kernel) (by decide +kernel)⟩
theorem lkRX3_284 : LV RX3 284 mX3_asTwin 3 := ⟨by decide, rfl, gt_t 525 (by decide +kernel) (by decide +kernel), gt_t 527 (by decide +kernel) (by decide +kernel), gt_s 28 (by decide +kernel) (by decide +kernel)⟩
theorem lkRX3_287 : LV RX3 287 mX3_asVeteran 3 := ⟨by decide, rfl, gt_t 530 (by decide +kernel) (by decide +kernel), gt_t 532 (by decide +kernel) (by decide +kernel), gt_s 29 (by decide +kernel) (by decide +kernel)⟩
theorem lkR_law_105 : LV R_law 105 mX3_keep 3 := ⟨by decide, rfl, gt_t 535 (by decide +kernel) (by decide +kernel), gt_t 536 (by decide +kernel) (by decide +kernel), gt_t 537 (by decide +kernel) (by decide +kernel)⟩
theorem lkR_law_109 : LV R_law 109 mX3_back 3 := ⟨by decide, rfl, gt_t 539 (by decide +kernel) (by decide +kernel), gt_t 540 (by decide +kernel) (by decide +kernel), gt_t 541 (by decide +kernel) (by decide +kernel)⟩
theorem lkR_law_113 : LV R_law 113 mX3_count 3 := ⟨by decide, rfl, gt_t 543 (by decide +kernel) (by decide +kernel), gt_t 544 (by decide +kernel) (by decide +kernel), gt_t 545 (by decide +kernel) (by decide +kernel)⟩
theorem lkR_law_117 : LV R_law 117 mX3_trace 3 := ⟨by decide, rfl, gt_t 547 (by decide +kernel) (by decide +kernel), gt_t 548 (by decide +kernel) (by decide +kernel), gt_t 549 (by decide +kernel) (by decide +kernel)⟩
theorem lkR_law_12 : LI R_law 12 mX4_init := ⟨rfl, gt_t 553 (by decide +kernel) (by decide +kernel), gt_t 554 (by decide +kernel) (by decide +kernel)⟩
theorem lkRX4_1 : Cond.methodLink RX4 1 Lib.objectInit ∈ gtbl := gt_t 556 (by decide +kernel) (by decide +kernel)
theorem lkRX4_60 : LV RX4 60 mX4_reads 4 := ⟨by decide, rfl, gt_t 557 (by decide +kernel) (by decide +kernel), gt_t 559 (by decide +kernel) (by decide +kernel), gt_s 30 (by decide +kernel) (by decide +kernel)⟩
theorem lkRX4_67 : LSt RX4 67 mX4_in := ⟨gt_t 561 (by decide +kernel) (by decide +kernel), gt_t 562 (by decide +kernel) (by decide +kernel)⟩
theorem lkRX4_97 : LV RX4 97 mX4_token 4 := ⟨by decide, rfl, gt_t 564 (by decide +kernel) (by decide +kernel), gt_t 566 (by decide +kernel) (by decide +kernel), gt_s 31 (by decide +kernel) (by decide +kernel)⟩
theorem lkRX4_77 : LV RX4 77 mX4_letterAt 4 := ⟨by decide, rfl, gt_t 568 (by decide +kernel) (by decide +kernel), gt_t 570 (by decide +kernel) (by decide +kernel), gt_s 32 (by decide +kernel) (by decide +kernel)⟩
theorem lkRX4_84 : LSt RX4 84 mX4_isItem := ⟨gt_t 572 (by decide +kernel) (by decide +kernel), gt_t 573 (by decide +kernel) (by decide +kernel)⟩
theorem lkRX4_88 : LSt RX4 88 mX4_isDigit := ⟨gt_t 575 (by decide +kernel) (by decide +kernel), gt_t 576 (by decide +kernel) (by decide +kernel)⟩
theorem lkRX4_121 : LV RX4 121 mX4_readsItem 4 := ⟨by decide, rfl, gt_t 578 (by decide +kernel) (by decide +kernel), gt_t 580 (by decide +kernel) (by decide +kernel), gt_s 33 (by decide +kernel) (by decide +kernel)⟩
theorem lkRX4_103 : LV RX4 103 mX4_readsDistricts 4 := ⟨by decide, rfl, gt_t 582 (by decide +kernel) (by decide +kernel), gt_t 584 (by decide +kernel) (by decide +kernel), gt_s 34 (by decide +kernel) (by decide +kernel)⟩
theorem lkRX4_100 : LV RX4 100 mX4_number 4 := ⟨by decide, rfl, gt_t 586 (by decide +kernel) (by decide +kernel), gt_t 588 (by decide +kernel) (by decide +kernel), gt_s 35 (by decide +kernel) (by decide +kernel)⟩
theorem lkRX4_106 : LV RX4 106 mX4_readsQuota 4 := ⟨by decide, rfl, gt_t 590 (by decide +kernel) (by decide +kernel), gt_t 592 (by decide +kernel) (by decide +kernel), gt_s 36 (by decide +kernel) (by decide +kernel)⟩
theorem lkRX4_109 : LV RX4 109 mX4_readsRoad 4 := ⟨by decide, rfl, gt_t 594 (by decide +kernel) (by decide +kernel), gt_t 596 (by decide +kernel) (by decide +kernel), gt_s 37 (by decide +kernel) (by decide +kernel)⟩
theorem lkRX4_112 : LV RX4 112 mX4_readsBeds 4 := ⟨by decide, rfl, gt_t 598 (by decide +kernel) (by decide +kernel), gt_t 600 (by decide +kernel) (by decide +kernel), gt_s 38 (by decide +kernel) (by decide +kernel)⟩
theorem lkRX4_115 : LV RX4 115 mX4_readsCitizen 4 := ⟨by decide, rfl, gt_t 602 (by decide +kernel) (by decide +kernel), gt_t 604 (by decide +kernel) (by decide +kernel), gt_s 39 (by decide +kernel) (by decide +kernel)⟩
theorem lkRX4_118 : LV RX4 118 mX4_readsNoise 4 := ⟨by decide, rfl, gt_t 606 (by decide +kernel) (by decide +kernel), gt_t 608 (by decide +kernel) (by decide +kernel), gt_s 40 (by decide +kernel) (by decide +kernel)⟩
theorem lkRX4_64 : LV RX4 64 mX4_tells 4 := ⟨by decide, rfl, gt_t 610 (by decide +kernel) (by decide +kernel), gt_t 612 (by decide +kernel) (by decide +kernel), gt_s 41 (by decide +kernel) (by decide +kernel)⟩
theorem lkRX4_124 : LV RX4 124 mX4_begins 4 := ⟨by decide, rfl, gt_t 614 (by decide +kernel) (by decide +kernel), gt_t 616 (by decide +kernel) (by decide +kernel), gt_s 42 (by decide +kernel) (by decide +kernel)⟩
theorem lkR_law_17 : LV R_law 17 mX4_type 4 := ⟨by decide, rfl, gt_t 697 (by decide +kernel) (by decide +kernel), gt_t 698 (by decide +kernel) (by decide +kernel), gt_t 699 (by decide +kernel) (by decide +kernel)⟩
theorem lkR_law_22 : LV R_law 22 mX4_clear 4 := ⟨by decide, rfl, gt_t 701 (by decide +kernel) (by decide +kernel), gt_t 702 (by decide +kernel) (by decide +kernel), gt_t 703 (by decide +kernel) (by decide +kernel)⟩
theorem lkR_law_26 : LV R_law 26 mX4_city 4 := ⟨by decide, rfl, gt_t 705 (by decide +kernel) (by decide +kernel), gt_t 706 (by decide +kernel) (by decide +kernel), gt_t 707 (by decide +kernel) (by decide +kernel)⟩
theorem lkR_law_31 : LV R_law 31 mX4_district 4 := ⟨by decide, rfl, gt_t 709 (by decide +kernel) (by decide +kernel), gt_t 710 (by decide +kernel) (by decide +kernel), gt_t 711 (by decide +kernel) (by decide +kernel)⟩
theorem lkRX4_133 : LV RX4 133 mX4_isDistrict 4 := ⟨by decide, rfl, gt_t 713 (by decide +kernel) (by decide +kernel), gt_t 715 (by decide +kernel) (by decide +kernel), gt_s 43 (by decide +kernel) (by decide +kernel)⟩
theorem lkR_law_35 : LV R_law 35 mX4_citizen 4 := ⟨by decide, rfl, gt_t 717 (by decide +kernel) (by decide +kernel), gt_t 718 (by decide +kernel) (by decide +kernel), gt_t 719 (by decide +kernel) (by decide +kernel)⟩
theorem lkRX4_136 : LV RX4 136 mX4_isCitizen 4 := ⟨by decide, rfl, gt_t 721 (by decide +kernel) (by decide +kernel), gt_t 723 (by decide +kernel) (by decide +kernel), gt_s 44 (by decide +kernel) (by decide +kernel)⟩
theorem lkR_law_39 : LV R_law 39 mX4_noise 4 := ⟨by decide, rfl, gt_t 725 (by decide +kernel) (by decide +kernel), gt_t 726 (by decide +kernel) (by decide +kernel), gt_t 727 (by decide +kernel) (by decide +kernel)⟩
theorem lkR_law_43 : LV R_law 43 mX4_now 4 := ⟨by decide, rfl, gt_t 729 (by decide +kernel) (by decide +kernel), gt_t 730 (by decide +kernel) (by decide +kernel), gt_t 731 (by decide +kernel) (by decide +kernel)⟩
theorem lkRX4_139 : LV RX4 139 mX4_most 4 := ⟨by decide, rfl, gt_t 733 (by decide +kernel) (by decide +kernel), gt_t 735 (by decide +kernel) (by decide +kernel), gt_s 45 (by decide +kernel) (by decide +kernel)⟩
theorem lkR_law_47 : LV R_law 47 mX4_calls 4 := ⟨by decide, rfl, gt_t 737 (by decide +kernel) (by decide +kernel), gt_t 738 (by decide +kernel) (by decide +kernel), gt_t 739 (by decide +kernel) (by decide +kernel)⟩
theorem lkRX4_142 : LV RX4 142 mX4_keeps 4 := ⟨by decide, rfl, gt_t 741 (by decide +kernel) (by decide +kernel), gt_t 743 (by decide +kernel) (by decide +kernel), gt_s 46 (by decide +kernel) (by decide +kernel)⟩
theorem lkR_law_51 : LV R_law 51 mX4_hour 4 := ⟨by decide, rfl, gt_t 745 (by decide +kernel) (by decide +kernel), gt_t 746 (by decide +kernel) (by decide +kernel), gt_t 747 (by decide +kernel) (by decide +kernel)⟩
theorem lkRX4_158 : LV RX4 158 mX4_calledNow 4 := ⟨by decide, rfl, gt_t 749 (by decide +kernel) (by decide +kernel), gt_t 751 (by decide +kernel) (by decide +kernel), gt_s 47 (by decide +kernel) (by decide +kernel)⟩
theorem lkRX4_162 : LV RX4 162 mX4_asleep 4 := ⟨by decide, rfl, gt_t 753 (by decide +kernel) (by decide +kernel), gt_t 755 (by decide +kernel) (by decide +kernel), gt_s 48 (by decide +kernel) (by decide +kernel)⟩
theorem lkRX4_148 : LV RX4 148 mX4_could 4 := ⟨by decide, rfl, gt_t 757 (by decide +kernel) (by decide +kernel), gt_t 759 (by decide +kernel) (by decide +kernel), gt_s 49 (by decide +kernel) (by decide +kernel)⟩
theorem lkRX4_152 : LV RX4 152 mX4_loudest 4 := ⟨by decide, rfl, gt_t 761 (by decide +kernel) (by decide +kernel), gt_t 763 (by decide +kernel) (by decide +kernel), gt_s 50 (by decide +kernel) (by decide +kernel)⟩
theorem lkRX4_165 : LV RX4 165 mX4_goes 4 := ⟨by decide, rfl, gt_t 765 (by decide +kernel) (by decide +kernel), gt_t 767 (by decide +kernel) (by decide +kernel), gt_s 51 (by decide +kernel) (by decide +kernel)⟩
theorem lkRX4_155 : LSt RX4 155 mX4_ones := ⟨gt_t 769 (by decide +kernel) (by decide +kernel), gt_t 770 (by decide +kernel) (by decide +kernel)⟩
theorem lkR_law_55 : LV R_law 55 mX4_undo 4 := ⟨by decide, rfl, gt_t 772 (by decide +kernel) (by decide +kernel), gt_t 773 (by decide +kernel) (by decide +kernel), gt_t 774 (by decide +kernel) (by decide +kernel)⟩
theorem lkR_law_59 : LV R_law 59 mX4_asleepIn 4 := ⟨by decide, rfl, gt_t 776 (by decide +kernel) (by decide +kernel), gt_t 777 (by decide +kernel) (by decide +kernel), gt_t 778 (by decide +kernel) (by decide +kernel)⟩
theorem lkRX4_168 : LV RX4 168 mX4_holds 4 := ⟨by decide, rfl, gt_t 780 (by decide +kernel) (by decide +kernel), gt_t 782 (by decide +kernel) (by decide +kernel), gt_s 52 (by decide +kernel) (by decide +kernel)⟩
theorem lkRX4_171 : LV RX4 171 mX4_lets 4 := ⟨by decide, rfl, gt_t 784 (by decide +kernel) (by decide +kernel), gt_t 786 (by decide +kernel) (by decide +kernel), gt_s 53 (by decide +kernel) (by decide +kernel)⟩
theorem lkR_law_63 : LV R_law 63 mX4_lapse 4 := ⟨by decide, rfl, gt_t 788 (by decide +kernel) (by decide +kernel), gt_t 789 (by decide +kernel) (by decide +kernel), gt_t 790 (by decide +kernel) (by decide +kernel)⟩
theorem lkRX4_174 : LV RX4 174 mX4_lapseIn 4 := ⟨by decide, rfl, gt_t 792 (by decide +kernel) (by decide +kernel), gt_t 794 (by decide +kernel) (by decide +kernel), gt_s 54 (by decide +kernel) (by decide +kernel)⟩
theorem lkR_law_67 : LV R_law 67 mX4_callUp 4 := ⟨by decide, rfl, gt_t 796 (by decide +kernel) (by decide +kernel), gt_t 797 (by decide +kernel) (by decide +kernel), gt_t 798 (by decide +kernel) (by decide +kernel)⟩
theorem lkRX4_187 : LV RX4 187 mX4_seeks 4 := ⟨by decide, rfl, gt_t 800 (by decide +kernel) (by decide +kernel), gt_t 802 (by decide +kernel) (by decide +kernel), gt_s 55 (by decide +kernel) (by decide +kernel)⟩
theorem lkRX4_180 : LV RX4 180 mX4_puts 4 := ⟨by decide, rfl, gt_t 804 (by decide +kernel) (by decide +kernel), gt_t 806 (by decide +kernel) (by decide +kernel), gt_s 56 (by decide +kernel) (by decide +kernel)⟩
theorem lkRX4_184 : LV RX4 184 mX4_takes 4 := ⟨by decide, rfl, gt_t 808 (by decide +kernel) (by decide +kernel), gt_t 810 (by decide +kernel) (by decide +kernel), gt_s 57 (by decide +kernel) (by decide +kernel)⟩
theorem lkR_law_71 : LV R_law 71 mX4_bears 4 := ⟨by decide, rfl, gt_t 812 (by decide +kernel) (by decide +kernel), gt_t 813 (by decide +kernel) (by decide +kernel), gt_t 814 (by decide +kernel) (by decide +kernel)⟩
theorem lkR_law_76 : LV R_law 76 mX4_cart 4 := ⟨by decide, rfl, gt_t 816 (by decide +kernel) (by decide +kernel), gt_t 817 (by decide +kernel) (by decide +kernel), gt_t 818 (by decide +kernel) (by decide +kernel)⟩
theorem lkRX4_190 : LV RX4 190 mX4_far 4 := ⟨by decide, rfl, gt_t 820 (by decide +kernel) (by decide +kernel), gt_t 822 (by decide +kernel) (by decide +kernel), gt_s 58 (by decide +kernel) (by decide +kernel)⟩
theorem lkR_law_80 : LV R_law 80 mX4_drum 4 := ⟨by decide, rfl, gt_t 824 (by decide +kernel) (by decide +kernel), gt_t 825 (by decide +kernel) (by decide +kernel), gt_t 826 (by decide +kernel) (by decide +kernel)⟩
theorem lkR_law_84 : LV R_law 84 mX4_wants 4 := ⟨by decide, rfl, gt_t 828 (by decide +kernel) (by decide +kernel), gt_t 829 (by decide +kernel) (by decide +kernel), gt_t 830 (by decide +kernel) (by decide +kernel)⟩
theorem lkR_law_88 : LV R_law 88 mX4_counted 4 := ⟨by decide, rfl, gt_t 832 (by decide +kernel) (by decide +kernel), gt_t 833 (by decide +kernel) (by decide +kernel), gt_t 834 (by decide +kernel) (by decide +kernel)⟩
theorem lkR_law_92 : LV R_law 92 mX4_forget 4 := ⟨by decide, rfl, gt_t 836 (by decide +kernel) (by decide +kernel), gt_t 837 (by decide +kernel) (by decide +kernel), gt_t 838 (by decide +kernel) (by decide +kernel)⟩
theorem lkR_law_96 : LV R_law 96 mX4_sham 4 := ⟨by decide, rfl, gt_t 840 (by decide +kernel) (by decide +kernel), gt_t 841 (by decide +kernel) (by decide +kernel), gt_t 842 (by decide +kernel) (by decide +kernel)⟩
theorem lkRX4_194 : LV RX4 194 mX4_isSo 4 := ⟨by decide, rfl, gt_t 844 (by decide +kernel) (by decide +kernel), gt_t 846 (by decide +kernel) (by decide +kernel), gt_s 59 (by decide +kernel) (by decide +kernel)⟩
theorem lkR_law_100 : LV R_law 100 mX4_odds 4 := ⟨by decide, rfl, gt_t 848 (by decide +kernel) (by decide +kernel), gt_t 849 (by decide +kernel) (by decide +kernel), gt_t 850 (by decide +kernel) (by decide +kernel)⟩
theorem lkR_law_104 : LV R_law 104 mX4_rate 4 := ⟨by decide, rfl, gt_t 852 (by decide +kernel) (by decide +kernel), gt_t 853 (by decide +kernel) (by decide +kernel), gt_t 854 (by decide +kernel) (by decide +kernel)⟩
theorem lkR_law_108 : LV R_law 108 mX4_keep 4 := ⟨by decide, rfl, gt_t 862 (by decide +kernel) (by decide +kernel), gt_t 863 (by decide +kernel) (by decide +kernel), gt_t 864 (by decide +kernel) (by decide +kernel)⟩
theorem lkR_law_112 : LV R_law 112 mX4_back 4 := ⟨by decide, rfl, gt_t 866 (by decide +kernel) (by decide +kernel), gt_t 867 (by decide +kernel) (by decide +kernel), gt_t 868 (by decide +kernel) (by decide +kernel)⟩
theorem lkR_law_116 : LV R_law 116 mX4_count 4 := ⟨by decide, rfl, gt_t 870 (by decide +kernel) (by decide +kernel), gt_t 871 (by decide +kernel) (by decide +kernel), gt_t 872 (by decide +kernel) (by decide +kernel)⟩
theorem lkR_law_121 : LV R_law 121 mX4_trace 4 := ⟨by decide, rfl, gt_t 874 (by decide +kernel) (by decide +kernel), gt_t 875 (by decide +kernel) (by decide +kernel), gt_t 876 (by decide +kernel) (by decide +kernel)⟩
theorem ctRJ6_265 : Cond.constant RJ6 265 (1431655765) ∈ gtbl := gt_t 375 (by decide +kernel) (by decide +kernel)
theorem ctRJ6_266 : Cond.constant RJ6 266 (858993459) ∈ gtbl := gt_t 376 (by decide +kernel) (by decide +kernel)
theorem ctRJ6_267 : Cond.constant RJ6 267 (252645135) ∈ gtbl := gt_t 377 (by decide +kernel) (by decide +kernel)
theorem ctRX3_271 : Cond.constant RX3 271 (-1000000) ∈ gtbl := gt_t 505 (by decide +kernel) (by decide +kernel)
theorem ctRX3_294 : Cond.constantLong RX3 294 (10) ∈ gtbl := gt_t 514 (by decide +kernel) (by decide +kernel)
theorem ctRX3_296 : Cond.constantLong RX3 296 (100) ∈ gtbl := gt_t 519 (by decide +kernel) (by decide +kernel)
theorem ctRX3_298 : Cond.constantLong RX3 298 (1000) ∈ gtbl := gt_t 524 (by decide +kernel) (by decide +kernel)
theorem ctRX3_300 : Cond.constantLong RX3 300 (10000) ∈ gtbl := gt_t 529 (by decide +kernel) (by decide +kernel)
theorem ctRX3_302 : Cond.constantLong RX3 302 (100000) ∈ gtbl := gt_t 534 (by decide +kernel) (by decide +kernel)
theorem ctRX4_197 : Cond.constant RX4 197 (-1000000) ∈ gtbl := gt_t 856 (by decide +kernel) (by decide +kernel)
theorem ctRX4_202 : Cond.constantLong RX4 202 (11) ∈ gtbl := gt_t 857 (by decide +kernel) (by decide +kernel)
theorem ctRX4_204 : Cond.constantLong RX4 204 (101) ∈ gtbl := gt_t 858 (by decide +kernel) (by decide +kernel)
theorem ctRX4_206 : Cond.constantLong RX4 206 (1011) ∈ gtbl := gt_t 859 (by decide +kernel) (by decide +kernel)
theorem ctRX4_208 : Cond.constantLong RX4 208 (10101) ∈ gtbl := gt_t 860 (by decide +kernel) (by decide +kernel)
theorem ctRX4_210 : Cond.constantLong RX4 210 (100001) ∈ gtbl := gt_t 861 (by decide +kernel) (by decide +kernel)
theorem clR_law_7 : Cond.classLink R_law 7 "SleepCalls" ∈ gtbl := gt_t 9 (by decide +kernel) (by decide +kernel)
theorem clRX3_9 : Cond.classLink RX3 9 "SleepCalls$Reader" ∈ gtbl := gt_t 17 (by decide +kernel) (by decide +kernel)
theorem clRX3_16 : Cond.classLink RX3 16 "SleepCalls$City" ∈ gtbl := gt_t 49 (by decide +kernel) (by decide +kernel)
theorem clRX3_26 : Cond.classLink RX3 26 "SleepCalls$Now" ∈ gtbl := gt_t 122 (by decide +kernel) (by decide +kernel)
theorem clRX3_57 : Cond.classLink RX3 57 "[[I" ∈ gtbl := gt_t 157 (by decide +kernel) (by decide +kernel)
theorem clR_law_10 : Cond.classLink R_law 10 "SleepCallsModel" ∈ gtbl := gt_t 551 (by decide +kernel) (by decide +kernel)
theorem ins_0 : Cond.instantiable (cnm 0) (cln 0) ∈ gtbl := gt_t 50 (by decide +kernel) (by decide +kernel)
theorem ini_0 : Cond.initialized (cnm 0) ∈ gtbl := gt_t 3 (by decide +kernel) (by decide +kernel)
theorem ins_1 : Cond.instantiable (cnm 1) (cln 1) ∈ gtbl := gt_t 123 (by decide +kernel) (by decide +kernel)
theorem ini_1 : Cond.initialized (cnm 1) ∈ gtbl := gt_t 4 (by decide +kernel) (by decide +kernel)
theorem ins_2 : Cond.instantiable (cnm 2) (cln 2) ∈ gtbl := gt_t 18 (by decide +kernel) (by decide +kernel)
theorem ini_2 : Cond.initialized (cnm 2) ∈ gtbl := gt_t 2 (by decide +kernel) (by decide +kernel)
theorem ins_3 : Cond.instantiable (cnm 3) (cln 3) ∈ gtbl := gt_t 10 (by decide +kernel) (by decide +kernel)
theorem ini_3 : Cond.initialized (cnm 3) ∈ gtbl := gt_t 1 (by decide +kernel) (by decide +kernel)
theorem ins_4 : Cond.instantiable (cnm 4) (cln 4) ∈ gtbl := gt_t 552 (by decide +kernel) (by decide +kernel)
theorem ini_4 : Cond.initialized (cnm 4) ∈ gtbl := gt_t 6 (by decide +kernel) (by decide +kernel)
theorem arc_5 : Cond.arrayClass (aty 5) ∈ gtbl := gt_t 47 (by decide +kernel) (by decide +kernel)
theorem arc_6 : Cond.arrayClass (aty 6) ∈ gtbl := gt_t 48 (by decide +kernel) (by decide +kernel)
theorem arc_7 : Cond.arrayClass (aty 7) ∈ gtbl := gt_t 291 (by decide +kernel) (by decide +kernel)
theorem st_max : Cond.static Lib.Math.max.name ∈ gtbl := gt_t 387 (by decide +kernel) (by decide +kernel)
theorem co_max : Cond.code Lib.Math.max.name Lib.Math.max.code 2 (some .int) ∈ gtbl := gt_t 388 (by decide +kernel) (by decide +kernel)
theorem st_min : Cond.static Lib.Math.min.name ∈ gtbl := gt_t 179 (by decide +kernel) (by decide +kernel)
theorem co_min : Cond.code Lib.Math.min.name Lib.Math.min.code 2 (some .int) ∈ gtbl := gt_t 180 (by decide +kernel) (by decide +kernel)
theorem ini_math : Cond.initialized "java/lang/Math" ∈ gtbl := gt_t 5 (by decide +kernel) (by decide +kernel)
theorem ini_sys : Cond.initialized "java/lang/System" ∈ gtbl := gt_t 7 (by decide +kernel) (by decide +kernel)
theorem nat_copy : Cond.native arraycopyName ∈ gtbl := gt_t 350 (by decide +kernel) (by decide +kernel)
theorem st_copy : Cond.static arraycopyName ∈ gtbl := gt_t 349 (by decide +kernel) (by decide +kernel)
theorem in_obj : Cond.instanceMethod Lib.objectInit ∈ gtbl := gt_t 15 (by decide +kernel) (by decide +kernel)
theorem co_obj : Cond.code Lib.objectInit ⟨#[0xb1]⟩ 1 none ∈ gtbl := gt_t 16 (by decide +kernel) (by decide +kernel)
theorem nI_addE {a b : Int32} {m k : Nat} (h1 : a = nI m) (h2 : b = nI k) : a + b = nI (m + k) := by rw [h1, h2, nI_add]
theorem nI_mulE {a b : Int32} {m k : Nat} (h1 : a = nI m) (h2 : b = nI k) : a * b = nI (m * k) := by rw [h1, h2, pk_mul]
section RULES4
variable {K : KT} {cc : ByteArray} {own : String} {nL d RC RS : Nat} {pc : Nat} {ls : List (Option Value)} {st : List Value} {h : HP} {n : Nat} {M : HM} {Rf : HR} {Lg : HL} {x y : Nat}
theorem g_incN (o : Ok K cc own nL d RC RS) {j : Nat} {i : Int} (c : Nat) (hd : decode cc pc = .ok (.iinc j i, 3)) (hi : i = 1) (hv : lget ls j = some (.int (nI c))) (k : G K (pc + 3) (ls.set j (some (.int (nI (c + 1))))) st h x y) : G K pc ls st h x y := by
  subst hi
  refine g_iinc o hd hv ?_
  rw [show nI c + Int32.ofInt 1 = nI (c + 1) from nI_1 c]
  exact k

theorem g_V0i (o : Ok K cc own nL (d + 1) RC RS) {idx t a N : Nat} {μ : MT} {w : Value} {h' : HP} (lk : LV own idx μ t) (cm : CM μ 0) (hM : Ret K.1 d μ [.ref a] h (some w) h' 0 0) (hs : shp a = (t, N)) (ha : a < h.1) (hls : ls.length = nL) (hst : Nat.ble (st.map fun v => v.category).sum 8 = true) (hxy : x ≤ RC ∧ y ≤ RS) (hd : decode cc pc = .ok (.invokevirtual idx, 3)) (k : G K (pc + 3) ls (w :: st) h' x y) : G K pc ls (.ref a :: st) h x y := g_callV (As := []) o lk cm hM rfl hs ha hls hst hxy hd k
theorem g_V0v (o : Ok K cc own nL (d + 1) RC RS) {idx t a N : Nat} {μ : MT} {h' : HP} (lk : LV own idx μ t) (cm : CM μ 0) (hM : Ret K.1 d μ [.ref a] h none h' 0 0) (hs : shp a = (t, N)) (ha : a < h.1) (hls : ls.length = nL) (hst : Nat.ble (st.map fun v => v.category).sum 8 = true) (hxy : x ≤ RC ∧ y ≤ RS) (hd : decode cc pc = .ok (.invokevirtual idx, 3)) (k : G K (pc + 3) ls st h' x y) : G K pc ls (.ref a :: st) h x y := g_callV (As := []) o lk cm hM rfl hs ha hls hst hxy hd k
theorem g_V1i (o : Ok K cc own nL (d + 1) RC RS) {idx t a N : Nat} {μ : MT} {a1 : Value} {w : Value} {h' : HP} (lk : LV own idx μ t) (cm : CM μ 1) (hM : Ret K.1 d μ [.ref a, a1] h (some w) h' 0 0) (hs : shp a = (t, N)) (ha : a < h.1) (hls : ls.length = nL) (hst : Nat.ble (st.map fun v => v.category).sum 8 = true) (hxy : x ≤ RC ∧ y ≤ RS) (hd : decode cc pc = .ok (.invokevirtual idx, 3)) (k : G K (pc + 3) ls (w :: st) h' x y) : G K pc ls (a1 :: .ref a :: st) h x y := g_callV (As := [a1]) o lk cm hM rfl hs ha hls hst hxy hd k
theorem g_S1i (o : Ok K cc own nL (d + 1) RC RS) {idx : Nat} {μ : MT} {a1 : Value} {w : Value} {h' : HP} (lk : LSt own idx μ) (cm : CM μ 1) (hM : Ret K.1 d μ [a1] h (some w) h' 0 0) (hls : ls.length = nL) (hst : Nat.ble (st.map fun v => v.category).sum 8 = true) (hxy : x ≤ RC ∧ y ≤ RS) (hd : decode cc pc = .ok (.invokestatic idx, 3)) (k : G K (pc + 3) ls (w :: st) h' x y) : G K pc ls (a1 :: st) h x y := g_callS (As := [a1]) o lk cm hM rfl hls hst hxy hd k
theorem g_SN1i (o : Ok K cc own nL (d + 1) RC RS) {idx : Nat} {μ : MT} {a1 : Value} {w : Value} {h' : HP} (lk : LSN own idx μ) (cm : CM μ 1) (hM : Ret K.1 d μ [a1] h (some w) h' 0 0) (hls : ls.length = nL) (hst : Nat.ble (st.map fun v => v.category).sum 8 = true) (hxy : x ≤ RC ∧ y ≤ RS) (hd : decode cc pc = .ok (.invokestatic idx, 3)) (k : G K (pc + 3) ls (w :: st) h' x y) : G K pc ls (a1 :: st) h x y := g_callSN (As := [a1]) o lk cm hM rfl hls hst hxy hd k
theorem g_V1v (o : Ok K cc own nL (d + 1) RC RS) {idx t a N : Nat} {μ : MT} {a1 : Value} {h' : HP} (lk : LV own idx μ t) (cm : CM μ 1) (hM : Ret K.1 d μ [.ref a, a1] h none h' 0 0) (hs : shp a = (t, N)) (ha : a < h.1) (hls : ls.length = nL) (hst : Nat.ble (st.map fun v => v.category).sum 8 = true) (hxy : x ≤ RC ∧ y ≤ RS) (hd : decode cc pc = .ok (.invokevirtual idx, 3)) (k : G K (pc + 3) ls st h' x y) : G K pc ls (a1 :: .ref a :: st) h x y := g_callV (As := [a1]) o lk cm hM rfl hs ha hls hst hxy hd k
theorem g_S1v (o : Ok K cc own nL (d + 1) RC RS) {idx : Nat} {μ : MT} {a1 : Value} {h' : HP} (lk : LSt own idx μ) (cm : CM μ 1) (hM : Ret K.1 d μ [a1] h none h' 0 0) (hls : ls.length = nL) (hst : Nat.ble (st.map fun v => v.category).sum 8 = true) (hxy : x ≤ RC ∧ y ≤ RS) (hd : decode cc pc = .ok (.invokestatic idx, 3)) (k : G K (pc + 3) ls st h' x y) : G K pc ls (a1 :: st) h x y := g_callS (As := [a1]) o lk cm hM rfl hls hst hxy hd k
theorem g_SN1v (o : Ok K cc own nL (d + 1) RC RS) {idx : Nat} {μ : MT} {a1 : Value} {h' : HP} (lk : LSN own idx μ) (cm : CM μ 1) (hM : Ret K.1 d μ [a1] h none h' 0 0) (hls : ls.length = nL) (hst : Nat.ble (st.map fun v => v.category).sum 8 = true) (hxy : x ≤ RC ∧ y ≤ RS) (hd : decode cc pc = .ok (.invokestatic idx, 3)) (k : G K (pc + 3) ls st h' x y) : G K pc ls (a1 :: st) h x y := g_callSN (As := [a1]) o lk cm hM rfl hls hst hxy hd k
theorem g_V2i (o : Ok K cc own nL (d + 1) RC RS) {idx t a N : Nat} {μ : MT} {a1 a2 : Value} {w : Value} {h' : HP} (lk : LV own idx μ t) (cm : CM μ 2) (hM : Ret K.1 d μ [.ref a, a1, a2] h (some w) h' 0 0) (hs : shp a = (t, N)) (ha : a < h.1) (hls : ls.length = nL) (hst : Nat.ble (st.map fun v => v.category).sum 8 = true) (hxy : x ≤ RC ∧ y ≤ RS) (hd : decode cc pc = .ok (.invokevirtual idx, 3)) (k : G K (pc + 3) ls (w :: st) h' x y) : G K pc ls (a2 :: a1 :: .ref a :: st) h x y := g_callV (As := [a1, a2]) o lk cm hM rfl hs ha hls hst hxy hd k
theorem g_S2i (o : Ok K cc own nL (d + 1) RC RS) {idx : Nat} {μ : MT} {a1 a2 : Value} {w : Value} {h' : HP} (lk : LSt own idx μ) (cm : CM μ 2) (hM : Ret K.1 d μ [a1, a2] h (some w) h' 0 0) (hls : ls.length = nL) (hst : Nat.ble (st.map fun v => v.category).sum 8 = true) (hxy : x ≤ RC ∧ y ≤ RS) (hd : decode cc pc = .ok (.invokestatic idx, 3)) (k : G K (pc + 3) ls (w :: st) h' x y) : G K pc ls (a2 :: a1 :: st) h x y := g_callS (As := [a1, a2]) o lk cm hM rfl hls hst hxy hd k
theorem g_SN2i (o : Ok K cc own nL (d + 1) RC RS) {idx : Nat} {μ : MT} {a1 a2 : Value} {w : Value} {h' : HP} (lk : LSN own idx μ) (cm : CM μ 2) (hM : Ret K.1 d μ [a1, a2] h (some w) h' 0 0) (hls : ls.length = nL) (hst : Nat.ble (st.map fun v => v.category).sum 8 = true) (hxy : x ≤ RC ∧ y ≤ RS) (hd : decode cc pc = .ok (.invokestatic idx, 3)) (k : G K (pc + 3) ls (w :: st) h' x y) : G K pc ls (a2 :: a1 :: st) h x y := g_callSN (As := [a1, a2]) o lk cm hM rfl hls hst hxy hd k
theorem g_V2v (o : Ok K cc own nL (d + 1) RC RS) {idx t a N : Nat} {μ : MT} {a1 a2 : Value} {h' : HP} (lk : LV own idx μ t) (cm : CM μ 2) (hM : Ret K.1 d μ [.ref a, a1, a2] h none h' 0 0) (hs : shp a = (t, N)) (ha : a < h.1) (hls : ls.length = nL) (hst : Nat.ble (st.map fun v => v.category).sum 8 = true) (hxy : x ≤ RC ∧ y ≤ RS) (hd : decode cc pc = .ok (.invokevirtual idx, 3)) (k : G K (pc + 3) ls st h' x y) : G K pc ls (a2 :: a1 :: .ref a :: st) h x y := g_callV (As := [a1, a2]) o lk cm hM rfl hs ha hls hst hxy hd k
theorem g_S2v (o : Ok K cc own nL (d + 1) RC RS) {idx : Nat} {μ : MT} {a1 a2 : Value} {h' : HP} (lk : LSt own idx μ) (cm : CM μ 2) (hM : Ret K.1 d μ [a1, a2] h none h' 0 0) (hls : ls.length = nL) (hst : Nat.ble (st.map fun v => v.category).sum 8 = true) (hxy : x ≤ RC ∧ y ≤ RS) (hd : decode cc pc = .ok (.invokestatic idx, 3)) (k : G K (pc + 3) ls st h' x y) : G K pc ls (a2 :: a1 :: st) h x y := g_callS (As := [a1, a2]) o lk cm hM rfl hls hst hxy hd k
theorem g_SN2v (o : Ok K cc own nL (d + 1) RC RS) {idx : Nat} {μ : MT} {a1 a2 : Value} {h' : HP} (lk : LSN own idx μ) (cm : CM μ 2) (hM : Ret K.1 d μ [a1, a2] h none h' 0 0) (hls : ls.length = nL) (hst : Nat.ble (st.map fun v => v.category).sum 8 = true) (hxy : x ≤ RC ∧ y ≤ RS) (hd : decode cc pc = .ok (.invokestatic idx, 3)) (k : G K (pc + 3) ls st h' x y) : G K pc ls (a2 :: a1 :: st) h x y := g_callSN (As := [a1, a2]) o lk cm hM rfl hls hst hxy hd k
theorem g_V3i (o : Ok K cc own nL (d + 1) RC RS) {idx t a N : Nat} {μ : MT} {a1 a2 a3 : Value} {w : Value} {h' : HP} (lk : LV own idx μ t) (cm : CM μ 3) (hM : Ret K.1 d μ [.ref a, a1, a2, a3] h (some w) h' 0 0) (hs : shp a = (t, N)) (ha : a < h.1) (hls : ls.length = nL) (hst : Nat.ble (st.map fun v => v.category).sum 8 = true) (hxy : x ≤ RC ∧ y ≤ RS) (hd : decode cc pc = .ok (.invokevirtual idx, 3)) (k : G K (pc + 3) ls (w :: st) h' x y) : G K pc ls (a3 :: a2 :: a1 :: .ref a :: st) h x y := g_callV (As := [a1, a2, a3]) o lk cm hM rfl hs ha hls hst hxy hd k
theorem g_S3i (o : Ok K cc own nL (d + 1) RC RS) {idx : Nat} {μ : MT} {a1 a2 a3 : Value} {w : Value} {h' : HP} (lk : LSt own idx μ) (cm : CM μ 3) (hM : Ret K.1 d μ [a1, a2, a3] h (some w) h' 0 0) (hls : ls.length = nL) (hst : Nat.ble (st.map fun v => v.category).sum 8 = true) (hxy : x ≤ RC ∧ y ≤ RS) (hd : decode cc pc = .ok (.invokestatic idx, 3)) (k : G K (pc + 3) ls (w :: st) h' x y) : G K pc ls (a3 :: a2 :: a1 :: st) h x y := g_callS (As := [a1, a2, a3]) o lk cm hM rfl hls hst hxy hd k
theorem g_SN3i (o : Ok K cc own nL (d + 1) RC RS) {idx : Nat} {μ : MT} {a1 a2 a3 : Value} {w : Value} {h' : HP} (lk : LSN own idx μ) (cm : CM μ 3) (hM : Ret K.1 d μ [a1, a2, a3] h (some w) h' 0 0) (hls : ls.length = nL) (hst : Nat.ble (st.map fun v => v.category).sum 8 = true) (hxy : x ≤ RC ∧ y ≤ RS) (hd : decode cc pc = .ok (.invokestatic idx, 3)) (k : G K (pc + 3) ls (w :: st) h' x y) : G K pc ls (a3 :: a2 :: a1 :: st) h x y := g_callSN (As := [a1, a2, a3]) o lk cm hM rfl hls hst hxy hd k
theorem g_V3v (o : Ok K cc own nL (d + 1) RC RS) {idx t a N : Nat} {μ : MT} {a1 a2 a3 : Value} {h' : HP} (lk : LV own idx μ t) (cm : CM μ 3) (hM : Ret K.1 d μ [.ref a, a1, a2, a3] h none h' 0 0) (hs : shp a = (t, N)) (ha : a < h.1) (hls : ls.length = nL) (hst : Nat.ble (st.map fun v => v.category).sum 8 = true) (hxy : x ≤ RC ∧ y ≤ RS) (hd : decode cc pc = .ok (.invokevirtual idx, 3)) (k : G K (pc + 3) ls st h' x y) : G K pc ls (a3 :: a2 :: a1 :: .ref a :: st) h x y := g_callV (As := [a1, a2, a3]) o lk cm hM rfl hs ha hls hst hxy hd k
theorem g_S3v (o : Ok K cc own nL (d + 1) RC RS) {idx : Nat} {μ : MT} {a1 a2 a3 : Value} {h' : HP} (lk : LSt own idx μ) (cm : CM μ 3) (hM : Ret K.1 d μ [a1, a2, a3] h none h' 0 0) (hls : ls.length = nL) (hst : Nat.ble (st.map fun v => v.category).sum 8 = true) (hxy : x ≤ RC ∧ y ≤ RS) (hd : decode cc pc = .ok (.invokestatic idx, 3)) (k : G K (pc + 3) ls st h' x y) : G K pc ls (a3 :: a2 :: a1 :: st) h x y := g_callS (As := [a1, a2, a3]) o lk cm hM rfl hls hst hxy hd k
theorem g_SN3v (o : Ok K cc own nL (d + 1) RC RS) {idx : Nat} {μ : MT} {a1 a2 a3 : Value} {h' : HP} (lk : LSN own idx μ) (cm : CM μ 3) (hM : Ret K.1 d μ [a1, a2, a3] h none h' 0 0) (hls : ls.length = nL) (hst : Nat.ble (st.map fun v => v.category).sum 8 = true) (hxy : x ≤ RC ∧ y ≤ RS) (hd : decode cc pc = .ok (.invokestatic idx, 3)) (k : G K (pc + 3) ls st h' x y) : G K pc ls (a3 :: a2 :: a1 :: st) h x y := g_callSN (As := [a1, a2, a3]) o lk cm hM rfl hls hst hxy hd k
theorem g_V4i (o : Ok K cc own nL (d + 1) RC RS) {idx t a N : Nat} {μ : MT} {a1 a2 a3 a4 : Value} {w : Value} {h' : HP} (lk : LV own idx μ t) (cm : CM μ 4) (hM : Ret K.1 d μ [.ref a, a1, a2, a3, a4] h (some w) h' 0 0) (hs : shp a = (t, N)) (ha : a < h.1) (hls : ls.length = nL) (hst : Nat.ble (st.map fun v => v.category).sum 8 = true) (hxy : x ≤ RC ∧ y ≤ RS) (hd : decode cc pc = .ok (.invokevirtual idx, 3)) (k : G K (pc + 3) ls (w :: st) h' x y) : G K pc ls (a4 :: a3 :: a2 :: a1 :: .ref a :: st) h x y := g_callV (As := [a1, a2, a3, a4]) o lk cm hM rfl hs ha hls hst hxy hd k
theorem g_S4i (o : Ok K cc own nL (d + 1) RC RS) {idx : Nat} {μ : MT} {a1 a2 a3 a4 : Value} {w : Value} {h' : HP} (lk : LSt own idx μ) (cm : CM μ 4) (hM : Ret K.1 d μ [a1, a2, a3, a4] h (some w) h' 0 0) (hls : ls.length = nL) (hst : Nat.ble (st.map fun v => v.category).sum 8 = true) (hxy : x ≤ RC ∧ y ≤ RS) (hd : decode cc pc = .ok (.invokestatic idx, 3)) (k : G K (pc + 3) ls (w :: st) h' x y) : G K pc ls (a4 :: a3 :: a2 :: a1 :: st) h x y := g_callS (As := [a1, a2, a3, a4]) o lk cm hM rfl hls hst hxy hd k
theorem g_SN4i (o : Ok K cc own nL (d + 1) RC RS) {idx : Nat} {μ : MT} {a1 a2 a3 a4 : Value} {w : Value} {h' : HP} (lk : LSN own idx μ) (cm : CM μ 4) (hM : Ret K.1 d μ [a1, a2, a3, a4] h (some w) h' 0 0) (hls : ls.length = nL) (hst : Nat.ble (st.map fun v => v.category).sum 8 = true) (hxy : x ≤ RC ∧ y ≤ RS) (hd : decode cc pc = .ok (.invokestatic idx, 3)) (k : G K (pc + 3) ls (w :: st) h' x y) : G K pc ls (a4 :: a3 :: a2 :: a1 :: st) h x y := g_callSN (As := [a1, a2, a3, a4]) o lk cm hM rfl hls hst hxy hd k
theorem g_V4v (o : Ok K cc own nL (d + 1) RC RS) {idx t a N : Nat} {μ : MT} {a1 a2 a3 a4 : Value} {h' : HP} (lk : LV own idx μ t) (cm : CM μ 4) (hM : Ret K.1 d μ [.ref a, a1, a2, a3, a4] h none h' 0 0) (hs : shp a = (t, N)) (ha : a < h.1) (hls : ls.length = nL) (hst : Nat.ble (st.map fun v => v.category).sum 8 = true) (hxy : x ≤ RC ∧ y ≤ RS) (hd : decode cc pc = .ok (.invokevirtual idx, 3)) (k : G K (pc + 3) ls st h' x y) : G K pc ls (a4 :: a3 :: a2 :: a1 :: .ref a :: st) h x y := g_callV (As := [a1, a2, a3, a4]) o lk cm hM rfl hs ha hls hst hxy hd k
theorem g_S4v (o : Ok K cc own nL (d + 1) RC RS) {idx : Nat} {μ : MT} {a1 a2 a3 a4 : Value} {h' : HP} (lk : LSt own idx μ) (cm : CM μ 4) (hM : Ret K.1 d μ [a1, a2, a3, a4] h none h' 0 0) (hls : ls.length = nL) (hst : Nat.ble (st.map fun v => v.category).sum 8 = true) (hxy : x ≤ RC ∧ y ≤ RS) (hd : decode cc pc = .ok (.invokestatic idx, 3)) (k : G K (pc + 3) ls st h' x y) : G K pc ls (a4 :: a3 :: a2 :: a1 :: st) h x y := g_callS (As := [a1, a2, a3, a4]) o lk cm hM rfl hls hst hxy hd k
theorem g_SN4v (o : Ok K cc own nL (d + 1) RC RS) {idx : Nat} {μ : MT} {a1 a2 a3 a4 : Value} {h' : HP} (lk : LSN own idx μ) (cm : CM μ 4) (hM : Ret K.1 d μ [a1, a2, a3, a4] h none h' 0 0) (hls : ls.length = nL) (hst : Nat.ble (st.map fun v => v.category).sum 8 = true) (hxy : x ≤ RC ∧ y ≤ RS) (hd : decode cc pc = .ok (.invokestatic idx, 3)) (k : G K (pc + 3) ls st h' x y) : G K pc ls (a4 :: a3 :: a2 :: a1 :: st) h x y := g_callSN (As := [a1, a2, a3, a4]) o lk cm hM rfl hls hst hxy hd k
end RULES4
end
section
theorem dJ6_bitCount_0f7a4_0 : decode cJ6_bitCount_0f7a4 0 = .ok (.iload_n 0, 1) := by decide +kernel
theorem dJ6_bitCount_0f7a4_1 : decode cJ6_bitCount_0f7a4 1 = .ok (.iload_n 0, 1) := by decide +kernel
theorem dJ6_bitCount_0f7a4_2 : decode cJ6_bitCount_0f7a4 2 = .ok (.iconst 1, 1) := by decide +kernel
theorem dJ6_bitCount_0f7a4_3 : decode cJ6_bitCount_0f7a4 3 = .ok (.iushr, 1) := by decide +kernel
theorem dJ6_bitCount_0f7a4_4 : decode cJ6_bitCount_0f7a4 4 = .ok (.ldc_w 265, 3) := by decide +kernel
theorem dJ6_bitCount_0f7a4_7 : decode cJ6_bitCount_0f7a4 7 = .ok (.iand, 1) := by decide +kernel
theorem dJ6_bitCount_0f7a4_8 : decode cJ6_bitCount_0f7a4 8 = .ok (.isub, 1) := by decide +kernel
theorem dJ6_bitCount_0f7a4_9 : decode cJ6_bitCount_0f7a4 9 = .ok (.istore_n 0, 1) := by decide +kernel
theorem dJ6_bitCount_0f7a4_10 : decode cJ6_bitCount_0f7a4 10 = .ok (.iload_n 0, 1) := by decide +kernel
theorem dJ6_bitCount_0f7a4_11 : decode cJ6_bitCount_0f7a4 11 = .ok (.ldc_w 266, 3) := by decide +kernel
theorem dJ6_bitCount_0f7a4_14 : decode cJ6_bitCount_0f7a4 14 = .ok (.iand, 1) := by decide +kernel
theorem dJ6_bitCount_0f7a4_15 : decode cJ6_bitCount_0f7a4 15 = .ok (.iload_n 0, 1) := by decide +kernel
theorem dJ6_bitCount_0f7a4_16 : decode cJ6_bitCount_0f7a4 16 = .ok (.iconst 2, 1) := by decide +kernel
theorem dJ6_bitCount_0f7a4_17 : decode cJ6_bitCount_0f7a4 17 = .ok (.iushr, 1) := by decide +kernel
theorem dJ6_bitCount_0f7a4_18 : decode cJ6_bitCount_0f7a4 18 = .ok (.ldc_w 266, 3) := by decide +kernel
theorem dJ6_bitCount_0f7a4_21 : decode cJ6_bitCount_0f7a4 21 = .ok (.iand, 1) := by decide +kernel
theorem dJ6_bitCount_0f7a4_22 : decode cJ6_bitCount_0f7a4 22 = .ok (.iadd, 1) := by decide +kernel
theorem dJ6_bitCount_0f7a4_23 : decode cJ6_bitCount_0f7a4 23 = .ok (.istore_n 0, 1) := by decide +kernel
theorem dJ6_bitCount_0f7a4_24 : decode cJ6_bitCount_0f7a4 24 = .ok (.iload_n 0, 1) := by decide +kernel
theorem dJ6_bitCount_0f7a4_25 : decode cJ6_bitCount_0f7a4 25 = .ok (.iload_n 0, 1) := by decide +kernel
theorem dJ6_bitCount_0f7a4_26 : decode cJ6_bitCount_0f7a4 26 = .ok (.iconst 4, 1) := by decide +kernel
theorem dJ6_bitCount_0f7a4_27 : decode cJ6_bitCount_0f7a4 27 = .ok (.iushr, 1) := by decide +kernel
theorem dJ6_bitCount_0f7a4_28 : decode cJ6_bitCount_0f7a4 28 = .ok (.iadd, 1) := by decide +kernel
theorem dJ6_bitCount_0f7a4_29 : decode cJ6_bitCount_0f7a4 29 = .ok (.ldc_w 267, 3) := by decide +kernel
theorem dJ6_bitCount_0f7a4_32 : decode cJ6_bitCount_0f7a4 32 = .ok (.iand, 1) := by decide +kernel
theorem dJ6_bitCount_0f7a4_33 : decode cJ6_bitCount_0f7a4 33 = .ok (.istore_n 0, 1) := by decide +kernel
theorem dJ6_bitCount_0f7a4_34 : decode cJ6_bitCount_0f7a4 34 = .ok (.iload_n 0, 1) := by decide +kernel
theorem dJ6_bitCount_0f7a4_35 : decode cJ6_bitCount_0f7a4 35 = .ok (.iload_n 0, 1) := by decide +kernel
theorem dJ6_bitCount_0f7a4_36 : decode cJ6_bitCount_0f7a4 36 = .ok (.bipush 8, 2) := by decide +kernel
theorem dJ6_bitCount_0f7a4_38 : decode cJ6_bitCount_0f7a4 38 = .ok (.iushr, 1) := by decide +kernel
theorem dJ6_bitCount_0f7a4_39 : decode cJ6_bitCount_0f7a4 39 = .ok (.iadd, 1) := by decide +kernel
theorem dJ6_bitCount_0f7a4_40 : decode cJ6_bitCount_0f7a4 40 = .ok (.istore_n 0, 1) := by decide +kernel
theorem dJ6_bitCount_0f7a4_41 : decode cJ6_bitCount_0f7a4 41 = .ok (.iload_n 0, 1) := by decide +kernel
theorem dJ6_bitCount_0f7a4_42 : decode cJ6_bitCount_0f7a4 42 = .ok (.iload_n 0, 1) := by decide +kernel
theorem dJ6_bitCount_0f7a4_43 : decode cJ6_bitCount_0f7a4 43 = .ok (.bipush 16, 2) := by decide +kernel
theorem dJ6_bitCount_0f7a4_45 : decode cJ6_bitCount_0f7a4 45 = .ok (.iushr, 1) := by decide +kernel
theorem dJ6_bitCount_0f7a4_46 : decode cJ6_bitCount_0f7a4 46 = .ok (.iadd, 1) := by decide +kernel
theorem dJ6_bitCount_0f7a4_47 : decode cJ6_bitCount_0f7a4 47 = .ok (.istore_n 0, 1) := by decide +kernel
theorem dJ6_bitCount_0f7a4_48 : decode cJ6_bitCount_0f7a4 48 = .ok (.iload_n 0, 1) := by decide +kernel
theorem dJ6_bitCount_0f7a4_49 : decode cJ6_bitCount_0f7a4 49 = .ok (.bipush 63, 2) := by decide +kernel
theorem dJ6_bitCount_0f7a4_51 : decode cJ6_bitCount_0f7a4 51 = .ok (.iand, 1) := by decide +kernel
theorem dJ6_bitCount_0f7a4_52 : decode cJ6_bitCount_0f7a4 52 = .ok (.ireturn, 1) := by decide +kernel
end
section
theorem dX0_init_0 : decode cX0_init 0 = .ok (.aload_n 0, 1) := by decide +kernel
theorem dX0_init_1 : decode cX0_init 1 = .ok (.invokespecial 3, 3) := by decide +kernel
theorem dX0_init_4 : decode cX0_init 4 = .ok (.aload_n 0, 1) := by decide +kernel
theorem dX0_init_5 : decode cX0_init 5 = .ok (.iconst 4, 1) := by decide +kernel
theorem dX0_init_6 : decode cX0_init 6 = .ok (.newarray .int, 2) := by decide +kernel
theorem dX0_init_8 : decode cX0_init 8 = .ok (.putfield 9, 3) := by decide +kernel
theorem dX0_init_11 : decode cX0_init 11 = .ok (.aload_n 0, 1) := by decide +kernel
theorem dX0_init_12 : decode cX0_init 12 = .ok (.iconst 4, 1) := by decide +kernel
theorem dX0_init_13 : decode cX0_init 13 = .ok (.newarray .int, 2) := by decide +kernel
theorem dX0_init_15 : decode cX0_init 15 = .ok (.putfield 15, 3) := by decide +kernel
theorem dX0_init_18 : decode cX0_init 18 = .ok (.aload_n 0, 1) := by decide +kernel
theorem dX0_init_19 : decode cX0_init 19 = .ok (.bipush 6, 2) := by decide +kernel
theorem dX0_init_21 : decode cX0_init 21 = .ok (.newarray .int, 2) := by decide +kernel
theorem dX0_init_23 : decode cX0_init 23 = .ok (.putfield 18, 3) := by decide +kernel
theorem dX0_init_26 : decode cX0_init 26 = .ok (.aload_n 0, 1) := by decide +kernel
theorem dX0_init_27 : decode cX0_init 27 = .ok (.bipush 6, 2) := by decide +kernel
theorem dX0_init_29 : decode cX0_init 29 = .ok (.newarray .int, 2) := by decide +kernel
theorem dX0_init_31 : decode cX0_init 31 = .ok (.putfield 21, 3) := by decide +kernel
theorem dX0_init_34 : decode cX0_init 34 = .ok (.aload_n 0, 1) := by decide +kernel
theorem dX0_init_35 : decode cX0_init 35 = .ok (.bipush 6, 2) := by decide +kernel
theorem dX0_init_37 : decode cX0_init 37 = .ok (.newarray .int, 2) := by decide +kernel
theorem dX0_init_39 : decode cX0_init 39 = .ok (.putfield 24, 3) := by decide +kernel
theorem dX0_init_42 : decode cX0_init 42 = .ok (.aload_n 0, 1) := by decide +kernel
theorem dX0_init_43 : decode cX0_init 43 = .ok (.bipush 6, 2) := by decide +kernel
theorem dX0_init_45 : decode cX0_init 45 = .ok (.newarray .int, 2) := by decide +kernel
theorem dX0_init_47 : decode cX0_init 47 = .ok (.putfield 27, 3) := by decide +kernel
theorem dX0_init_50 : decode cX0_init 50 = .ok (.aload_n 0, 1) := by decide +kernel
theorem dX0_init_51 : decode cX0_init 51 = .ok (.bipush 6, 2) := by decide +kernel
theorem dX0_init_53 : decode cX0_init 53 = .ok (.newarray .int, 2) := by decide +kernel
theorem dX0_init_55 : decode cX0_init 55 = .ok (.putfield 30, 3) := by decide +kernel
theorem dX0_init_58 : decode cX0_init 58 = .ok (.aload_n 0, 1) := by decide +kernel
theorem dX0_init_59 : decode cX0_init 59 = .ok (.bipush 6, 2) := by decide +kernel
theorem dX0_init_61 : decode cX0_init 61 = .ok (.newarray .int, 2) := by decide +kernel
theorem dX0_init_63 : decode cX0_init 63 = .ok (.putfield 33, 3) := by decide +kernel
theorem dX0_init_66 : decode cX0_init 66 = .ok (.aload_n 0, 1) := by decide +kernel
theorem dX0_init_67 : decode cX0_init 67 = .ok (.bipush 6, 2) := by decide +kernel
theorem dX0_init_69 : decode cX0_init 69 = .ok (.newarray .int, 2) := by decide +kernel
theorem dX0_init_71 : decode cX0_init 71 = .ok (.putfield 36, 3) := by decide +kernel
theorem dX0_init_74 : decode cX0_init 74 = .ok (.aload_n 0, 1) := by decide +kernel
theorem dX0_init_75 : decode cX0_init 75 = .ok (.iconst 4, 1) := by decide +kernel
theorem dX0_init_76 : decode cX0_init 76 = .ok (.newarray .int, 2) := by decide +kernel
theorem dX0_init_78 : decode cX0_init 78 = .ok (.putfield 39, 3) := by decide +kernel
theorem dX0_init_81 : decode cX0_init 81 = .ok (.aload_n 0, 1) := by decide +kernel
theorem dX0_init_82 : decode cX0_init 82 = .ok (.bipush 8, 2) := by decide +kernel
theorem dX0_init_84 : decode cX0_init 84 = .ok (.newarray .int, 2) := by decide +kernel
theorem dX0_init_86 : decode cX0_init 86 = .ok (.putfield 42, 3) := by decide +kernel
theorem dX0_init_89 : decode cX0_init 89 = .ok (.return_, 1) := by decide +kernel
theorem dX0_restart_0 : decode cX0_restart 0 = .ok (.aload_n 0, 1) := by decide +kernel
theorem dX0_restart_1 : decode cX0_restart 1 = .ok (.iconst 1, 1) := by decide +kernel
theorem dX0_restart_2 : decode cX0_restart 2 = .ok (.putfield 45, 3) := by decide +kernel
theorem dX0_restart_5 : decode cX0_restart 5 = .ok (.aload_n 0, 1) := by decide +kernel
theorem dX0_restart_6 : decode cX0_restart 6 = .ok (.iconst 1, 1) := by decide +kernel
theorem dX0_restart_7 : decode cX0_restart 7 = .ok (.putfield 49, 3) := by decide +kernel
theorem dX0_restart_10 : decode cX0_restart 10 = .ok (.aload_n 0, 1) := by decide +kernel
theorem dX0_restart_11 : decode cX0_restart 11 = .ok (.iconst 0, 1) := by decide +kernel
theorem dX0_restart_12 : decode cX0_restart 12 = .ok (.putfield 52, 3) := by decide +kernel
theorem dX0_restart_15 : decode cX0_restart 15 = .ok (.aload_n 0, 1) := by decide +kernel
theorem dX0_restart_16 : decode cX0_restart 16 = .ok (.iconst 0, 1) := by decide +kernel
theorem dX0_restart_17 : decode cX0_restart 17 = .ok (.putfield 56, 3) := by decide +kernel
theorem dX0_restart_20 : decode cX0_restart 20 = .ok (.aload_n 0, 1) := by decide +kernel
theorem dX0_restart_21 : decode cX0_restart 21 = .ok (.iconst 0, 1) := by decide +kernel
theorem dX0_restart_22 : decode cX0_restart 22 = .ok (.putfield 59, 3) := by decide +kernel
theorem dX0_restart_25 : decode cX0_restart 25 = .ok (.iconst 0, 1) := by decide +kernel
theorem dX0_restart_26 : decode cX0_restart 26 = .ok (.istore_n 1, 1) := by decide +kernel
theorem dX0_restart_27 : decode cX0_restart 27 = .ok (.iload_n 1, 1) := by decide +kernel
theorem dX0_restart_28 : decode cX0_restart 28 = .ok (.iconst 4, 1) := by decide +kernel
theorem dX0_restart_29 : decode cX0_restart 29 = .ok (.if_icmp .ge 31, 3) := by decide +kernel
theorem dX0_restart_32 : decode cX0_restart 32 = .ok (.aload_n 0, 1) := by decide +kernel
theorem dX0_restart_33 : decode cX0_restart 33 = .ok (.getfield 9, 3) := by decide +kernel
theorem dX0_restart_36 : decode cX0_restart 36 = .ok (.iload_n 1, 1) := by decide +kernel
theorem dX0_restart_37 : decode cX0_restart 37 = .ok (.bipush 6, 2) := by decide +kernel
theorem dX0_restart_39 : decode cX0_restart 39 = .ok (.iastore, 1) := by decide +kernel
theorem dX0_restart_40 : decode cX0_restart 40 = .ok (.aload_n 0, 1) := by decide +kernel
theorem dX0_restart_41 : decode cX0_restart 41 = .ok (.getfield 15, 3) := by decide +kernel
theorem dX0_restart_44 : decode cX0_restart 44 = .ok (.iload_n 1, 1) := by decide +kernel
theorem dX0_restart_45 : decode cX0_restart 45 = .ok (.iconst 0, 1) := by decide +kernel
theorem dX0_restart_46 : decode cX0_restart 46 = .ok (.iastore, 1) := by decide +kernel
theorem dX0_restart_47 : decode cX0_restart 47 = .ok (.aload_n 0, 1) := by decide +kernel
theorem dX0_restart_48 : decode cX0_restart 48 = .ok (.getfield 39, 3) := by decide +kernel
theorem dX0_restart_51 : decode cX0_restart 51 = .ok (.iload_n 1, 1) := by decide +kernel
theorem dX0_restart_52 : decode cX0_restart 52 = .ok (.iconst 0, 1) := by decide +kernel
theorem dX0_restart_53 : decode cX0_restart 53 = .ok (.iastore, 1) := by decide +kernel
theorem dX0_restart_54 : decode cX0_restart 54 = .ok (.iinc 1 1, 3) := by decide +kernel
theorem dX0_restart_57 : decode cX0_restart 57 = .ok (.goto (-30), 3) := by decide +kernel
theorem dX0_restart_60 : decode cX0_restart 60 = .ok (.return_, 1) := by decide +kernel
theorem dX0_mayComeNext_0 : decode cX0_mayComeNext 0 = .ok (.iload_n 1, 1) := by decide +kernel
theorem dX0_mayComeNext_1 : decode cX0_mayComeNext 1 = .ok (.lookupswitch 96 #[(99, 66), (100, 43), (110, 81), (113, 53)], 43) := by decide +kernel
theorem dX0_mayComeNext_44 : decode cX0_mayComeNext 44 = .ok (.iload_n 2, 1) := by decide +kernel
theorem dX0_mayComeNext_45 : decode cX0_mayComeNext 45 = .ok (.ifCond .ne 7, 3) := by decide +kernel
theorem dX0_mayComeNext_48 : decode cX0_mayComeNext 48 = .ok (.iconst 1, 1) := by decide +kernel
theorem dX0_mayComeNext_49 : decode cX0_mayComeNext 49 = .ok (.goto 4, 3) := by decide +kernel
theorem dX0_mayComeNext_52 : decode cX0_mayComeNext 52 = .ok (.iconst 0, 1) := by decide +kernel
theorem dX0_mayComeNext_53 : decode cX0_mayComeNext 53 = .ok (.ireturn, 1) := by decide +kernel
theorem dX0_mayComeNext_54 : decode cX0_mayComeNext 54 = .ok (.aload_n 0, 1) := by decide +kernel
theorem dX0_mayComeNext_55 : decode cX0_mayComeNext 55 = .ok (.getfield 52, 3) := by decide +kernel
theorem dX0_mayComeNext_58 : decode cX0_mayComeNext 58 = .ok (.ifCond .ne 7, 3) := by decide +kernel
theorem dX0_mayComeNext_61 : decode cX0_mayComeNext 61 = .ok (.iconst 1, 1) := by decide +kernel
theorem dX0_mayComeNext_62 : decode cX0_mayComeNext 62 = .ok (.goto 4, 3) := by decide +kernel
theorem dX0_mayComeNext_65 : decode cX0_mayComeNext 65 = .ok (.iconst 0, 1) := by decide +kernel
theorem dX0_mayComeNext_66 : decode cX0_mayComeNext 66 = .ok (.ireturn, 1) := by decide +kernel
theorem dX0_mayComeNext_67 : decode cX0_mayComeNext 67 = .ok (.aload_n 0, 1) := by decide +kernel
theorem dX0_mayComeNext_68 : decode cX0_mayComeNext 68 = .ok (.getfield 56, 3) := by decide +kernel
theorem dX0_mayComeNext_71 : decode cX0_mayComeNext 71 = .ok (.bipush 6, 2) := by decide +kernel
theorem dX0_mayComeNext_73 : decode cX0_mayComeNext 73 = .ok (.if_icmp .ge 7, 3) := by decide +kernel
theorem dX0_mayComeNext_76 : decode cX0_mayComeNext 76 = .ok (.iconst 1, 1) := by decide +kernel
theorem dX0_mayComeNext_77 : decode cX0_mayComeNext 77 = .ok (.goto 4, 3) := by decide +kernel
theorem dX0_mayComeNext_80 : decode cX0_mayComeNext 80 = .ok (.iconst 0, 1) := by decide +kernel
theorem dX0_mayComeNext_81 : decode cX0_mayComeNext 81 = .ok (.ireturn, 1) := by decide +kernel
theorem dX0_mayComeNext_82 : decode cX0_mayComeNext 82 = .ok (.aload_n 0, 1) := by decide +kernel
theorem dX0_mayComeNext_83 : decode cX0_mayComeNext 83 = .ok (.getfield 59, 3) := by decide +kernel
theorem dX0_mayComeNext_86 : decode cX0_mayComeNext 86 = .ok (.bipush 6, 2) := by decide +kernel
theorem dX0_mayComeNext_88 : decode cX0_mayComeNext 88 = .ok (.if_icmp .ge 7, 3) := by decide +kernel
theorem dX0_mayComeNext_91 : decode cX0_mayComeNext 91 = .ok (.iconst 1, 1) := by decide +kernel
theorem dX0_mayComeNext_92 : decode cX0_mayComeNext 92 = .ok (.goto 4, 3) := by decide +kernel
theorem dX0_mayComeNext_95 : decode cX0_mayComeNext 95 = .ok (.iconst 0, 1) := by decide +kernel
theorem dX0_mayComeNext_96 : decode cX0_mayComeNext 96 = .ok (.ireturn, 1) := by decide +kernel
theorem dX0_mayComeNext_97 : decode cX0_mayComeNext 97 = .ok (.iload_n 1, 1) := by decide +kernel
theorem dX0_mayComeNext_98 : decode cX0_mayComeNext 98 = .ok (.bipush 101, 2) := by decide +kernel
theorem dX0_mayComeNext_100 : decode cX0_mayComeNext 100 = .ok (.if_icmp .eq 9, 3) := by decide +kernel
theorem dX0_mayComeNext_103 : decode cX0_mayComeNext 103 = .ok (.iload_n 1, 1) := by decide +kernel
theorem dX0_mayComeNext_104 : decode cX0_mayComeNext 104 = .ok (.bipush 98, 2) := by decide +kernel
theorem dX0_mayComeNext_106 : decode cX0_mayComeNext 106 = .ok (.if_icmp .ne 7, 3) := by decide +kernel
theorem dX0_mayComeNext_109 : decode cX0_mayComeNext 109 = .ok (.iconst 1, 1) := by decide +kernel
theorem dX0_mayComeNext_110 : decode cX0_mayComeNext 110 = .ok (.goto 4, 3) := by decide +kernel
theorem dX0_mayComeNext_113 : decode cX0_mayComeNext 113 = .ok (.iconst 0, 1) := by decide +kernel
theorem dX0_mayComeNext_114 : decode cX0_mayComeNext 114 = .ok (.ireturn, 1) := by decide +kernel
theorem dX0_tell_0 : decode cX0_tell 0 = .ok (.iload_n 1, 1) := by decide +kernel
theorem dX0_tell_1 : decode cX0_tell 1 = .ok (.tableswitch 169 98 113 #[139, 153, 79, 104, 169, 169, 169, 169, 169, 169, 169, 169, 161, 169, 169, 89], 79) := by decide +kernel
theorem dX0_tell_80 : decode cX0_tell 80 = .ok (.aload_n 0, 1) := by decide +kernel
theorem dX0_tell_81 : decode cX0_tell 81 = .ok (.aload_n 2, 1) := by decide +kernel
theorem dX0_tell_82 : decode cX0_tell 82 = .ok (.iconst 0, 1) := by decide +kernel
theorem dX0_tell_83 : decode cX0_tell 83 = .ok (.iaload, 1) := by decide +kernel
theorem dX0_tell_84 : decode cX0_tell 84 = .ok (.putfield 45, 3) := by decide +kernel
theorem dX0_tell_87 : decode cX0_tell 87 = .ok (.goto 83, 3) := by decide +kernel
theorem dX0_tell_90 : decode cX0_tell 90 = .ok (.aload_n 0, 1) := by decide +kernel
theorem dX0_tell_91 : decode cX0_tell 91 = .ok (.aload_n 2, 1) := by decide +kernel
theorem dX0_tell_92 : decode cX0_tell 92 = .ok (.iconst 0, 1) := by decide +kernel
theorem dX0_tell_93 : decode cX0_tell 93 = .ok (.iaload, 1) := by decide +kernel
theorem dX0_tell_94 : decode cX0_tell 94 = .ok (.putfield 49, 3) := by decide +kernel
theorem dX0_tell_97 : decode cX0_tell 97 = .ok (.aload_n 0, 1) := by decide +kernel
theorem dX0_tell_98 : decode cX0_tell 98 = .ok (.iconst 1, 1) := by decide +kernel
theorem dX0_tell_99 : decode cX0_tell 99 = .ok (.putfield 52, 3) := by decide +kernel
theorem dX0_tell_102 : decode cX0_tell 102 = .ok (.goto 68, 3) := by decide +kernel
theorem dX0_tell_105 : decode cX0_tell 105 = .ok (.aload_n 0, 1) := by decide +kernel
theorem dX0_tell_106 : decode cX0_tell 106 = .ok (.getfield 15, 3) := by decide +kernel
theorem dX0_tell_109 : decode cX0_tell 109 = .ok (.aload_n 2, 1) := by decide +kernel
theorem dX0_tell_110 : decode cX0_tell 110 = .ok (.iconst 0, 1) := by decide +kernel
theorem dX0_tell_111 : decode cX0_tell 111 = .ok (.iaload, 1) := by decide +kernel
theorem dX0_tell_112 : decode cX0_tell 112 = .ok (.dup2, 1) := by decide +kernel
theorem dX0_tell_113 : decode cX0_tell 113 = .ok (.iaload, 1) := by decide +kernel
theorem dX0_tell_114 : decode cX0_tell 114 = .ok (.iconst 1, 1) := by decide +kernel
theorem dX0_tell_115 : decode cX0_tell 115 = .ok (.aload_n 2, 1) := by decide +kernel
theorem dX0_tell_116 : decode cX0_tell 116 = .ok (.iconst 1, 1) := by decide +kernel
theorem dX0_tell_117 : decode cX0_tell 117 = .ok (.iaload, 1) := by decide +kernel
theorem dX0_tell_118 : decode cX0_tell 118 = .ok (.ishl, 1) := by decide +kernel
theorem dX0_tell_119 : decode cX0_tell 119 = .ok (.ior, 1) := by decide +kernel
theorem dX0_tell_120 : decode cX0_tell 120 = .ok (.iastore, 1) := by decide +kernel
theorem dX0_tell_121 : decode cX0_tell 121 = .ok (.aload_n 0, 1) := by decide +kernel
theorem dX0_tell_122 : decode cX0_tell 122 = .ok (.getfield 15, 3) := by decide +kernel
theorem dX0_tell_125 : decode cX0_tell 125 = .ok (.aload_n 2, 1) := by decide +kernel
theorem dX0_tell_126 : decode cX0_tell 126 = .ok (.iconst 1, 1) := by decide +kernel
theorem dX0_tell_127 : decode cX0_tell 127 = .ok (.iaload, 1) := by decide +kernel
theorem dX0_tell_128 : decode cX0_tell 128 = .ok (.dup2, 1) := by decide +kernel
theorem dX0_tell_129 : decode cX0_tell 129 = .ok (.iaload, 1) := by decide +kernel
theorem dX0_tell_130 : decode cX0_tell 130 = .ok (.iconst 1, 1) := by decide +kernel
theorem dX0_tell_131 : decode cX0_tell 131 = .ok (.aload_n 2, 1) := by decide +kernel
theorem dX0_tell_132 : decode cX0_tell 132 = .ok (.iconst 0, 1) := by decide +kernel
theorem dX0_tell_133 : decode cX0_tell 133 = .ok (.iaload, 1) := by decide +kernel
theorem dX0_tell_134 : decode cX0_tell 134 = .ok (.ishl, 1) := by decide +kernel
theorem dX0_tell_135 : decode cX0_tell 135 = .ok (.ior, 1) := by decide +kernel
theorem dX0_tell_136 : decode cX0_tell 136 = .ok (.iastore, 1) := by decide +kernel
theorem dX0_tell_137 : decode cX0_tell 137 = .ok (.goto 33, 3) := by decide +kernel
theorem dX0_tell_140 : decode cX0_tell 140 = .ok (.aload_n 0, 1) := by decide +kernel
theorem dX0_tell_141 : decode cX0_tell 141 = .ok (.getfield 9, 3) := by decide +kernel
theorem dX0_tell_144 : decode cX0_tell 144 = .ok (.aload_n 2, 1) := by decide +kernel
theorem dX0_tell_145 : decode cX0_tell 145 = .ok (.iconst 0, 1) := by decide +kernel
theorem dX0_tell_146 : decode cX0_tell 146 = .ok (.iaload, 1) := by decide +kernel
theorem dX0_tell_147 : decode cX0_tell 147 = .ok (.aload_n 2, 1) := by decide +kernel
theorem dX0_tell_148 : decode cX0_tell 148 = .ok (.iconst 1, 1) := by decide +kernel
theorem dX0_tell_149 : decode cX0_tell 149 = .ok (.iaload, 1) := by decide +kernel
theorem dX0_tell_150 : decode cX0_tell 150 = .ok (.iastore, 1) := by decide +kernel
theorem dX0_tell_151 : decode cX0_tell 151 = .ok (.goto 19, 3) := by decide +kernel
theorem dX0_tell_154 : decode cX0_tell 154 = .ok (.aload_n 0, 1) := by decide +kernel
theorem dX0_tell_155 : decode cX0_tell 155 = .ok (.aload_n 2, 1) := by decide +kernel
theorem dX0_tell_156 : decode cX0_tell 156 = .ok (.invokevirtual 62, 3) := by decide +kernel
theorem dX0_tell_159 : decode cX0_tell 159 = .ok (.goto 11, 3) := by decide +kernel
theorem dX0_tell_162 : decode cX0_tell 162 = .ok (.aload_n 0, 1) := by decide +kernel
theorem dX0_tell_163 : decode cX0_tell 163 = .ok (.aload_n 2, 1) := by decide +kernel
theorem dX0_tell_164 : decode cX0_tell 164 = .ok (.invokevirtual 66, 3) := by decide +kernel
theorem dX0_tell_167 : decode cX0_tell 167 = .ok (.goto 3, 3) := by decide +kernel
theorem dX0_tell_170 : decode cX0_tell 170 = .ok (.return_, 1) := by decide +kernel
theorem dX0_tellCitizen_0 : decode cX0_tellCitizen 0 = .ok (.aload_n 0, 1) := by decide +kernel
theorem dX0_tellCitizen_1 : decode cX0_tellCitizen 1 = .ok (.getfield 18, 3) := by decide +kernel
theorem dX0_tellCitizen_4 : decode cX0_tellCitizen 4 = .ok (.aload_n 0, 1) := by decide +kernel
theorem dX0_tellCitizen_5 : decode cX0_tellCitizen 5 = .ok (.getfield 56, 3) := by decide +kernel
theorem dX0_tellCitizen_8 : decode cX0_tellCitizen 8 = .ok (.aload_n 1, 1) := by decide +kernel
theorem dX0_tellCitizen_9 : decode cX0_tellCitizen 9 = .ok (.iconst 0, 1) := by decide +kernel
theorem dX0_tellCitizen_10 : decode cX0_tellCitizen 10 = .ok (.iaload, 1) := by decide +kernel
theorem dX0_tellCitizen_11 : decode cX0_tellCitizen 11 = .ok (.iastore, 1) := by decide +kernel
theorem dX0_tellCitizen_12 : decode cX0_tellCitizen 12 = .ok (.aload_n 0, 1) := by decide +kernel
theorem dX0_tellCitizen_13 : decode cX0_tellCitizen 13 = .ok (.getfield 21, 3) := by decide +kernel
theorem dX0_tellCitizen_16 : decode cX0_tellCitizen 16 = .ok (.aload_n 0, 1) := by decide +kernel
theorem dX0_tellCitizen_17 : decode cX0_tellCitizen 17 = .ok (.getfield 56, 3) := by decide +kernel
theorem dX0_tellCitizen_20 : decode cX0_tellCitizen 20 = .ok (.aload_n 1, 1) := by decide +kernel
theorem dX0_tellCitizen_21 : decode cX0_tellCitizen 21 = .ok (.iconst 1, 1) := by decide +kernel
theorem dX0_tellCitizen_22 : decode cX0_tellCitizen 22 = .ok (.iaload, 1) := by decide +kernel
theorem dX0_tellCitizen_23 : decode cX0_tellCitizen 23 = .ok (.iastore, 1) := by decide +kernel
theorem dX0_tellCitizen_24 : decode cX0_tellCitizen 24 = .ok (.aload_n 0, 1) := by decide +kernel
theorem dX0_tellCitizen_25 : decode cX0_tellCitizen 25 = .ok (.getfield 24, 3) := by decide +kernel
theorem dX0_tellCitizen_28 : decode cX0_tellCitizen 28 = .ok (.aload_n 0, 1) := by decide +kernel
theorem dX0_tellCitizen_29 : decode cX0_tellCitizen 29 = .ok (.getfield 56, 3) := by decide +kernel
theorem dX0_tellCitizen_32 : decode cX0_tellCitizen 32 = .ok (.aload_n 1, 1) := by decide +kernel
theorem dX0_tellCitizen_33 : decode cX0_tellCitizen 33 = .ok (.iconst 2, 1) := by decide +kernel
theorem dX0_tellCitizen_34 : decode cX0_tellCitizen 34 = .ok (.iaload, 1) := by decide +kernel
theorem dX0_tellCitizen_35 : decode cX0_tellCitizen 35 = .ok (.iastore, 1) := by decide +kernel
theorem dX0_tellCitizen_36 : decode cX0_tellCitizen 36 = .ok (.aload_n 0, 1) := by decide +kernel
theorem dX0_tellCitizen_37 : decode cX0_tellCitizen 37 = .ok (.getfield 27, 3) := by decide +kernel
theorem dX0_tellCitizen_40 : decode cX0_tellCitizen 40 = .ok (.aload_n 0, 1) := by decide +kernel
theorem dX0_tellCitizen_41 : decode cX0_tellCitizen 41 = .ok (.getfield 56, 3) := by decide +kernel
theorem dX0_tellCitizen_44 : decode cX0_tellCitizen 44 = .ok (.aload_n 1, 1) := by decide +kernel
theorem dX0_tellCitizen_45 : decode cX0_tellCitizen 45 = .ok (.iconst 3, 1) := by decide +kernel
theorem dX0_tellCitizen_46 : decode cX0_tellCitizen 46 = .ok (.iaload, 1) := by decide +kernel
theorem dX0_tellCitizen_47 : decode cX0_tellCitizen 47 = .ok (.iastore, 1) := by decide +kernel
theorem dX0_tellCitizen_48 : decode cX0_tellCitizen 48 = .ok (.aload_n 0, 1) := by decide +kernel
theorem dX0_tellCitizen_49 : decode cX0_tellCitizen 49 = .ok (.getfield 39, 3) := by decide +kernel
theorem dX0_tellCitizen_52 : decode cX0_tellCitizen 52 = .ok (.aload_n 1, 1) := by decide +kernel
theorem dX0_tellCitizen_53 : decode cX0_tellCitizen 53 = .ok (.iconst 0, 1) := by decide +kernel
theorem dX0_tellCitizen_54 : decode cX0_tellCitizen 54 = .ok (.iaload, 1) := by decide +kernel
theorem dX0_tellCitizen_55 : decode cX0_tellCitizen 55 = .ok (.dup2, 1) := by decide +kernel
theorem dX0_tellCitizen_56 : decode cX0_tellCitizen 56 = .ok (.iaload, 1) := by decide +kernel
theorem dX0_tellCitizen_57 : decode cX0_tellCitizen 57 = .ok (.iconst 1, 1) := by decide +kernel
theorem dX0_tellCitizen_58 : decode cX0_tellCitizen 58 = .ok (.aload_n 0, 1) := by decide +kernel
theorem dX0_tellCitizen_59 : decode cX0_tellCitizen 59 = .ok (.getfield 56, 3) := by decide +kernel
theorem dX0_tellCitizen_62 : decode cX0_tellCitizen 62 = .ok (.ishl, 1) := by decide +kernel
theorem dX0_tellCitizen_63 : decode cX0_tellCitizen 63 = .ok (.ior, 1) := by decide +kernel
theorem dX0_tellCitizen_64 : decode cX0_tellCitizen 64 = .ok (.iastore, 1) := by decide +kernel
theorem dX0_tellCitizen_65 : decode cX0_tellCitizen 65 = .ok (.aload_n 0, 1) := by decide +kernel
theorem dX0_tellCitizen_66 : decode cX0_tellCitizen 66 = .ok (.dup, 1) := by decide +kernel
theorem dX0_tellCitizen_67 : decode cX0_tellCitizen 67 = .ok (.getfield 56, 3) := by decide +kernel
theorem dX0_tellCitizen_70 : decode cX0_tellCitizen 70 = .ok (.iconst 1, 1) := by decide +kernel
theorem dX0_tellCitizen_71 : decode cX0_tellCitizen 71 = .ok (.iadd, 1) := by decide +kernel
theorem dX0_tellCitizen_72 : decode cX0_tellCitizen 72 = .ok (.putfield 56, 3) := by decide +kernel
theorem dX0_tellCitizen_75 : decode cX0_tellCitizen 75 = .ok (.return_, 1) := by decide +kernel
theorem dX0_tellNoise_0 : decode cX0_tellNoise 0 = .ok (.aload_n 0, 1) := by decide +kernel
theorem dX0_tellNoise_1 : decode cX0_tellNoise 1 = .ok (.getfield 30, 3) := by decide +kernel
theorem dX0_tellNoise_4 : decode cX0_tellNoise 4 = .ok (.aload_n 0, 1) := by decide +kernel
theorem dX0_tellNoise_5 : decode cX0_tellNoise 5 = .ok (.getfield 59, 3) := by decide +kernel
theorem dX0_tellNoise_8 : decode cX0_tellNoise 8 = .ok (.aload_n 1, 1) := by decide +kernel
theorem dX0_tellNoise_9 : decode cX0_tellNoise 9 = .ok (.iconst 0, 1) := by decide +kernel
theorem dX0_tellNoise_10 : decode cX0_tellNoise 10 = .ok (.iaload, 1) := by decide +kernel
theorem dX0_tellNoise_11 : decode cX0_tellNoise 11 = .ok (.iastore, 1) := by decide +kernel
theorem dX0_tellNoise_12 : decode cX0_tellNoise 12 = .ok (.aload_n 0, 1) := by decide +kernel
theorem dX0_tellNoise_13 : decode cX0_tellNoise 13 = .ok (.getfield 33, 3) := by decide +kernel
theorem dX0_tellNoise_16 : decode cX0_tellNoise 16 = .ok (.aload_n 0, 1) := by decide +kernel
theorem dX0_tellNoise_17 : decode cX0_tellNoise 17 = .ok (.getfield 59, 3) := by decide +kernel
theorem dX0_tellNoise_20 : decode cX0_tellNoise 20 = .ok (.aload_n 1, 1) := by decide +kernel
theorem dX0_tellNoise_21 : decode cX0_tellNoise 21 = .ok (.iconst 1, 1) := by decide +kernel
theorem dX0_tellNoise_22 : decode cX0_tellNoise 22 = .ok (.iaload, 1) := by decide +kernel
theorem dX0_tellNoise_23 : decode cX0_tellNoise 23 = .ok (.iastore, 1) := by decide +kernel
theorem dX0_tellNoise_24 : decode cX0_tellNoise 24 = .ok (.aload_n 0, 1) := by decide +kernel
theorem dX0_tellNoise_25 : decode cX0_tellNoise 25 = .ok (.getfield 36, 3) := by decide +kernel
theorem dX0_tellNoise_28 : decode cX0_tellNoise 28 = .ok (.aload_n 0, 1) := by decide +kernel
theorem dX0_tellNoise_29 : decode cX0_tellNoise 29 = .ok (.getfield 59, 3) := by decide +kernel
theorem dX0_tellNoise_32 : decode cX0_tellNoise 32 = .ok (.aload_n 1, 1) := by decide +kernel
theorem dX0_tellNoise_33 : decode cX0_tellNoise 33 = .ok (.iconst 2, 1) := by decide +kernel
theorem dX0_tellNoise_34 : decode cX0_tellNoise 34 = .ok (.iaload, 1) := by decide +kernel
theorem dX0_tellNoise_35 : decode cX0_tellNoise 35 = .ok (.iastore, 1) := by decide +kernel
theorem dX0_tellNoise_36 : decode cX0_tellNoise 36 = .ok (.aload_n 0, 1) := by decide +kernel
theorem dX0_tellNoise_37 : decode cX0_tellNoise 37 = .ok (.dup, 1) := by decide +kernel
theorem dX0_tellNoise_38 : decode cX0_tellNoise 38 = .ok (.getfield 59, 3) := by decide +kernel
theorem dX0_tellNoise_41 : decode cX0_tellNoise 41 = .ok (.iconst 1, 1) := by decide +kernel
theorem dX0_tellNoise_42 : decode cX0_tellNoise 42 = .ok (.iadd, 1) := by decide +kernel
theorem dX0_tellNoise_43 : decode cX0_tellNoise 43 = .ok (.putfield 59, 3) := by decide +kernel
theorem dX0_tellNoise_46 : decode cX0_tellNoise 46 = .ok (.return_, 1) := by decide +kernel
theorem dX0_settle_0 : decode cX0_settle 0 = .ok (.iconst 0, 1) := by decide +kernel
theorem dX0_settle_1 : decode cX0_settle 1 = .ok (.istore_n 1, 1) := by decide +kernel
theorem dX0_settle_2 : decode cX0_settle 2 = .ok (.iload_n 1, 1) := by decide +kernel
theorem dX0_settle_3 : decode cX0_settle 3 = .ok (.bipush 8, 2) := by decide +kernel
theorem dX0_settle_5 : decode cX0_settle 5 = .ok (.if_icmp .ge 65, 3) := by decide +kernel
theorem dX0_settle_8 : decode cX0_settle 8 = .ok (.iconst 0, 1) := by decide +kernel
theorem dX0_settle_9 : decode cX0_settle 9 = .ok (.istore_n 2, 1) := by decide +kernel
theorem dX0_settle_10 : decode cX0_settle 10 = .ok (.iconst 0, 1) := by decide +kernel
theorem dX0_settle_11 : decode cX0_settle 11 = .ok (.istore_n 3, 1) := by decide +kernel
theorem dX0_settle_12 : decode cX0_settle 12 = .ok (.iload_n 3, 1) := by decide +kernel
theorem dX0_settle_13 : decode cX0_settle 13 = .ok (.aload_n 0, 1) := by decide +kernel
theorem dX0_settle_14 : decode cX0_settle 14 = .ok (.getfield 56, 3) := by decide +kernel
theorem dX0_settle_17 : decode cX0_settle 17 = .ok (.if_icmp .ge 28, 3) := by decide +kernel
theorem dX0_settle_20 : decode cX0_settle 20 = .ok (.aload_n 0, 1) := by decide +kernel
theorem dX0_settle_21 : decode cX0_settle 21 = .ok (.getfield 24, 3) := by decide +kernel
theorem dX0_settle_24 : decode cX0_settle 24 = .ok (.iload_n 3, 1) := by decide +kernel
theorem dX0_settle_25 : decode cX0_settle 25 = .ok (.iaload, 1) := by decide +kernel
theorem dX0_settle_26 : decode cX0_settle 26 = .ok (.iload_n 1, 1) := by decide +kernel
theorem dX0_settle_27 : decode cX0_settle 27 = .ok (.invokestatic 69, 3) := by decide +kernel
theorem dX0_settle_30 : decode cX0_settle 30 = .ok (.ifCond .ne 9, 3) := by decide +kernel
theorem dX0_settle_33 : decode cX0_settle 33 = .ok (.iload_n 2, 1) := by decide +kernel
theorem dX0_settle_34 : decode cX0_settle 34 = .ok (.iconst 1, 1) := by decide +kernel
theorem dX0_settle_35 : decode cX0_settle 35 = .ok (.iload_n 3, 1) := by decide +kernel
theorem dX0_settle_36 : decode cX0_settle 36 = .ok (.ishl, 1) := by decide +kernel
theorem dX0_settle_37 : decode cX0_settle 37 = .ok (.ior, 1) := by decide +kernel
theorem dX0_settle_38 : decode cX0_settle 38 = .ok (.istore_n 2, 1) := by decide +kernel
theorem dX0_settle_39 : decode cX0_settle 39 = .ok (.iinc 3 1, 3) := by decide +kernel
theorem dX0_settle_42 : decode cX0_settle 42 = .ok (.goto (-30), 3) := by decide +kernel
theorem dX0_settle_45 : decode cX0_settle 45 = .ok (.aload_n 0, 1) := by decide +kernel
theorem dX0_settle_46 : decode cX0_settle 46 = .ok (.getfield 42, 3) := by decide +kernel
theorem dX0_settle_49 : decode cX0_settle 49 = .ok (.iload_n 1, 1) := by decide +kernel
theorem dX0_settle_50 : decode cX0_settle 50 = .ok (.iload_n 2, 1) := by decide +kernel
theorem dX0_settle_51 : decode cX0_settle 51 = .ok (.aload_n 0, 1) := by decide +kernel
theorem dX0_settle_52 : decode cX0_settle 52 = .ok (.aload_n 0, 1) := by decide +kernel
theorem dX0_settle_53 : decode cX0_settle 53 = .ok (.iload_n 1, 1) := by decide +kernel
theorem dX0_settle_54 : decode cX0_settle 54 = .ok (.invokevirtual 73, 3) := by decide +kernel
theorem dX0_settle_57 : decode cX0_settle 57 = .ok (.invokevirtual 77, 3) := by decide +kernel
theorem dX0_settle_60 : decode cX0_settle 60 = .ok (.iconst (-1), 1) := by decide +kernel
theorem dX0_settle_61 : decode cX0_settle 61 = .ok (.ixor, 1) := by decide +kernel
theorem dX0_settle_62 : decode cX0_settle 62 = .ok (.iand, 1) := by decide +kernel
theorem dX0_settle_63 : decode cX0_settle 63 = .ok (.iastore, 1) := by decide +kernel
theorem dX0_settle_64 : decode cX0_settle 64 = .ok (.iinc 1 1, 3) := by decide +kernel
theorem dX0_settle_67 : decode cX0_settle 67 = .ok (.goto (-65), 3) := by decide +kernel
theorem dX0_settle_70 : decode cX0_settle 70 = .ok (.return_, 1) := by decide +kernel
theorem dX0_tiredOf_0 : decode cX0_tiredOf 0 = .ok (.iconst 0, 1) := by decide +kernel
theorem dX0_tiredOf_1 : decode cX0_tiredOf 1 = .ok (.istore_n 2, 1) := by decide +kernel
theorem dX0_tiredOf_2 : decode cX0_tiredOf 2 = .ok (.iconst 0, 1) := by decide +kernel
theorem dX0_tiredOf_3 : decode cX0_tiredOf 3 = .ok (.istore_n 3, 1) := by decide +kernel
theorem dX0_tiredOf_4 : decode cX0_tiredOf 4 = .ok (.iload_n 3, 1) := by decide +kernel
theorem dX0_tiredOf_5 : decode cX0_tiredOf 5 = .ok (.aload_n 0, 1) := by decide +kernel
theorem dX0_tiredOf_6 : decode cX0_tiredOf 6 = .ok (.getfield 56, 3) := by decide +kernel
theorem dX0_tiredOf_9 : decode cX0_tiredOf 9 = .ok (.if_icmp .ge 21, 3) := by decide +kernel
theorem dX0_tiredOf_12 : decode cX0_tiredOf 12 = .ok (.aload_n 1, 1) := by decide +kernel
theorem dX0_tiredOf_13 : decode cX0_tiredOf 13 = .ok (.iload_n 3, 1) := by decide +kernel
theorem dX0_tiredOf_14 : decode cX0_tiredOf 14 = .ok (.iaload, 1) := by decide +kernel
theorem dX0_tiredOf_15 : decode cX0_tiredOf 15 = .ok (.ifCond .le 9, 3) := by decide +kernel
theorem dX0_tiredOf_18 : decode cX0_tiredOf 18 = .ok (.iload_n 2, 1) := by decide +kernel
theorem dX0_tiredOf_19 : decode cX0_tiredOf 19 = .ok (.iconst 1, 1) := by decide +kernel
theorem dX0_tiredOf_20 : decode cX0_tiredOf 20 = .ok (.iload_n 3, 1) := by decide +kernel
theorem dX0_tiredOf_21 : decode cX0_tiredOf 21 = .ok (.ishl, 1) := by decide +kernel
theorem dX0_tiredOf_22 : decode cX0_tiredOf 22 = .ok (.ior, 1) := by decide +kernel
theorem dX0_tiredOf_23 : decode cX0_tiredOf 23 = .ok (.istore_n 2, 1) := by decide +kernel
theorem dX0_tiredOf_24 : decode cX0_tiredOf 24 = .ok (.iinc 3 1, 3) := by decide +kernel
theorem dX0_tiredOf_27 : decode cX0_tiredOf 27 = .ok (.goto (-23), 3) := by decide +kernel
theorem dX0_tiredOf_30 : decode cX0_tiredOf 30 = .ok (.iload_n 2, 1) := by decide +kernel
theorem dX0_tiredOf_31 : decode cX0_tiredOf 31 = .ok (.ireturn, 1) := by decide +kernel
theorem dX0_bedded_0 : decode cX0_bedded 0 = .ok (.iconst 0, 1) := by decide +kernel
theorem dX0_bedded_1 : decode cX0_bedded 1 = .ok (.istore_n 2, 1) := by decide +kernel
theorem dX0_bedded_2 : decode cX0_bedded 2 = .ok (.iconst 0, 1) := by decide +kernel
theorem dX0_bedded_3 : decode cX0_bedded 3 = .ok (.istore_n 3, 1) := by decide +kernel
theorem dX0_bedded_4 : decode cX0_bedded 4 = .ok (.iload_n 3, 1) := by decide +kernel
theorem dX0_bedded_5 : decode cX0_bedded 5 = .ok (.aload_n 0, 1) := by decide +kernel
theorem dX0_bedded_6 : decode cX0_bedded 6 = .ok (.getfield 45, 3) := by decide +kernel
theorem dX0_bedded_9 : decode cX0_bedded 9 = .ok (.if_icmp .ge 32, 3) := by decide +kernel
theorem dX0_bedded_12 : decode cX0_bedded 12 = .ok (.iload_n 2, 1) := by decide +kernel
theorem dX0_bedded_13 : decode cX0_bedded 13 = .ok (.iload_n 1, 1) := by decide +kernel
theorem dX0_bedded_14 : decode cX0_bedded 14 = .ok (.aload_n 0, 1) := by decide +kernel
theorem dX0_bedded_15 : decode cX0_bedded 15 = .ok (.getfield 39, 3) := by decide +kernel
theorem dX0_bedded_18 : decode cX0_bedded 18 = .ok (.iload_n 3, 1) := by decide +kernel
theorem dX0_bedded_19 : decode cX0_bedded 19 = .ok (.iaload, 1) := by decide +kernel
theorem dX0_bedded_20 : decode cX0_bedded 20 = .ok (.iand, 1) := by decide +kernel
theorem dX0_bedded_21 : decode cX0_bedded 21 = .ok (.invokestatic 80, 3) := by decide +kernel
theorem dX0_bedded_24 : decode cX0_bedded 24 = .ok (.aload_n 0, 1) := by decide +kernel
theorem dX0_bedded_25 : decode cX0_bedded 25 = .ok (.getfield 9, 3) := by decide +kernel
theorem dX0_bedded_28 : decode cX0_bedded 28 = .ok (.iload_n 3, 1) := by decide +kernel
theorem dX0_bedded_29 : decode cX0_bedded 29 = .ok (.iaload, 1) := by decide +kernel
theorem dX0_bedded_30 : decode cX0_bedded 30 = .ok (.invokestatic 85, 3) := by decide +kernel
theorem dX0_bedded_33 : decode cX0_bedded 33 = .ok (.iadd, 1) := by decide +kernel
theorem dX0_bedded_34 : decode cX0_bedded 34 = .ok (.istore_n 2, 1) := by decide +kernel
theorem dX0_bedded_35 : decode cX0_bedded 35 = .ok (.iinc 3 1, 3) := by decide +kernel
theorem dX0_bedded_38 : decode cX0_bedded 38 = .ok (.goto (-34), 3) := by decide +kernel
theorem dX0_bedded_41 : decode cX0_bedded 41 = .ok (.iload_n 2, 1) := by decide +kernel
theorem dX0_bedded_42 : decode cX0_bedded 42 = .ok (.ireturn, 1) := by decide +kernel
theorem dX0_couldLieDown_0 : decode cX0_couldLieDown 0 = .ok (.iconst 0, 1) := by decide +kernel
theorem dX0_couldLieDown_1 : decode cX0_couldLieDown 1 = .ok (.istore_n 2, 1) := by decide +kernel
theorem dX0_couldLieDown_2 : decode cX0_couldLieDown 2 = .ok (.iconst 0, 1) := by decide +kernel
theorem dX0_couldLieDown_3 : decode cX0_couldLieDown 3 = .ok (.istore_n 3, 1) := by decide +kernel
theorem dX0_couldLieDown_4 : decode cX0_couldLieDown 4 = .ok (.iload_n 3, 1) := by decide +kernel
theorem dX0_couldLieDown_5 : decode cX0_couldLieDown 5 = .ok (.aload_n 0, 1) := by decide +kernel
theorem dX0_couldLieDown_6 : decode cX0_couldLieDown 6 = .ok (.getfield 56, 3) := by decide +kernel
theorem dX0_couldLieDown_9 : decode cX0_couldLieDown 9 = .ok (.if_icmp .ge 49, 3) := by decide +kernel
theorem dX0_couldLieDown_12 : decode cX0_couldLieDown 12 = .ok (.aload_n 1, 1) := by decide +kernel
theorem dX0_couldLieDown_13 : decode cX0_couldLieDown 13 = .ok (.getfield 91, 3) := by decide +kernel
theorem dX0_couldLieDown_16 : decode cX0_couldLieDown 16 = .ok (.iload_n 3, 1) := by decide +kernel
theorem dX0_couldLieDown_17 : decode cX0_couldLieDown 17 = .ok (.iaload, 1) := by decide +kernel
theorem dX0_couldLieDown_18 : decode cX0_couldLieDown 18 = .ok (.aload_n 0, 1) := by decide +kernel
theorem dX0_couldLieDown_19 : decode cX0_couldLieDown 19 = .ok (.getfield 24, 3) := by decide +kernel
theorem dX0_couldLieDown_22 : decode cX0_couldLieDown 22 = .ok (.iload_n 3, 1) := by decide +kernel
theorem dX0_couldLieDown_23 : decode cX0_couldLieDown 23 = .ok (.iaload, 1) := by decide +kernel
theorem dX0_couldLieDown_24 : decode cX0_couldLieDown 24 = .ok (.iconst (-1), 1) := by decide +kernel
theorem dX0_couldLieDown_25 : decode cX0_couldLieDown 25 = .ok (.ixor, 1) := by decide +kernel
theorem dX0_couldLieDown_26 : decode cX0_couldLieDown 26 = .ok (.iand, 1) := by decide +kernel
theorem dX0_couldLieDown_27 : decode cX0_couldLieDown 27 = .ok (.aload_n 1, 1) := by decide +kernel
theorem dX0_couldLieDown_28 : decode cX0_couldLieDown 28 = .ok (.getfield 96, 3) := by decide +kernel
theorem dX0_couldLieDown_31 : decode cX0_couldLieDown 31 = .ok (.invokestatic 69, 3) := by decide +kernel
theorem dX0_couldLieDown_34 : decode cX0_couldLieDown 34 = .ok (.ifCond .eq 18, 3) := by decide +kernel
theorem dX0_couldLieDown_37 : decode cX0_couldLieDown 37 = .ok (.aload_n 1, 1) := by decide +kernel
theorem dX0_couldLieDown_38 : decode cX0_couldLieDown 38 = .ok (.getfield 99, 3) := by decide +kernel
theorem dX0_couldLieDown_41 : decode cX0_couldLieDown 41 = .ok (.iload_n 3, 1) := by decide +kernel
theorem dX0_couldLieDown_42 : decode cX0_couldLieDown 42 = .ok (.iaload, 1) := by decide +kernel
theorem dX0_couldLieDown_43 : decode cX0_couldLieDown 43 = .ok (.ifCond .le 9, 3) := by decide +kernel
theorem dX0_couldLieDown_46 : decode cX0_couldLieDown 46 = .ok (.iload_n 2, 1) := by decide +kernel
theorem dX0_couldLieDown_47 : decode cX0_couldLieDown 47 = .ok (.iconst 1, 1) := by decide +kernel
theorem dX0_couldLieDown_48 : decode cX0_couldLieDown 48 = .ok (.iload_n 3, 1) := by decide +kernel
theorem dX0_couldLieDown_49 : decode cX0_couldLieDown 49 = .ok (.ishl, 1) := by decide +kernel
theorem dX0_couldLieDown_50 : decode cX0_couldLieDown 50 = .ok (.ior, 1) := by decide +kernel
theorem dX0_couldLieDown_51 : decode cX0_couldLieDown 51 = .ok (.istore_n 2, 1) := by decide +kernel
theorem dX0_couldLieDown_52 : decode cX0_couldLieDown 52 = .ok (.iinc 3 1, 3) := by decide +kernel
theorem dX0_couldLieDown_55 : decode cX0_couldLieDown 55 = .ok (.goto (-51), 3) := by decide +kernel
theorem dX0_couldLieDown_58 : decode cX0_couldLieDown 58 = .ok (.iload_n 2, 1) := by decide +kernel
theorem dX0_couldLieDown_59 : decode cX0_couldLieDown 59 = .ok (.ireturn, 1) := by decide +kernel
theorem dX0_lyingDown_0 : decode cX0_lyingDown 0 = .ok (.aload_n 0, 1) := by decide +kernel
theorem dX0_lyingDown_1 : decode cX0_lyingDown 1 = .ok (.aload_n 1, 1) := by decide +kernel
theorem dX0_lyingDown_2 : decode cX0_lyingDown 2 = .ok (.invokevirtual 102, 3) := by decide +kernel
theorem dX0_lyingDown_5 : decode cX0_lyingDown 5 = .ok (.istore_n 3, 1) := by decide +kernel
theorem dX0_lyingDown_6 : decode cX0_lyingDown 6 = .ok (.iconst 0, 1) := by decide +kernel
theorem dX0_lyingDown_7 : decode cX0_lyingDown 7 = .ok (.istore 4, 2) := by decide +kernel
theorem dX0_lyingDown_9 : decode cX0_lyingDown 9 = .ok (.iconst 0, 1) := by decide +kernel
theorem dX0_lyingDown_10 : decode cX0_lyingDown 10 = .ok (.istore 5, 2) := by decide +kernel
theorem dX0_lyingDown_12 : decode cX0_lyingDown 12 = .ok (.iload 5, 2) := by decide +kernel
theorem dX0_lyingDown_14 : decode cX0_lyingDown 14 = .ok (.aload_n 0, 1) := by decide +kernel
theorem dX0_lyingDown_15 : decode cX0_lyingDown 15 = .ok (.getfield 56, 3) := by decide +kernel
theorem dX0_lyingDown_18 : decode cX0_lyingDown 18 = .ok (.if_icmp .ge 65, 3) := by decide +kernel
theorem dX0_lyingDown_21 : decode cX0_lyingDown 21 = .ok (.aload_n 0, 1) := by decide +kernel
theorem dX0_lyingDown_22 : decode cX0_lyingDown 22 = .ok (.getfield 18, 3) := by decide +kernel
theorem dX0_lyingDown_25 : decode cX0_lyingDown 25 = .ok (.iload 5, 2) := by decide +kernel
theorem dX0_lyingDown_27 : decode cX0_lyingDown 27 = .ok (.iaload, 1) := by decide +kernel
theorem dX0_lyingDown_28 : decode cX0_lyingDown 28 = .ok (.istore 6, 2) := by decide +kernel
theorem dX0_lyingDown_30 : decode cX0_lyingDown 30 = .ok (.iload 5, 2) := by decide +kernel
theorem dX0_lyingDown_32 : decode cX0_lyingDown 32 = .ok (.iload_n 2, 1) := by decide +kernel
theorem dX0_lyingDown_33 : decode cX0_lyingDown 33 = .ok (.if_icmp .eq 44, 3) := by decide +kernel
theorem dX0_lyingDown_36 : decode cX0_lyingDown 36 = .ok (.iload_n 3, 1) := by decide +kernel
theorem dX0_lyingDown_37 : decode cX0_lyingDown 37 = .ok (.iload 5, 2) := by decide +kernel
theorem dX0_lyingDown_39 : decode cX0_lyingDown 39 = .ok (.invokestatic 69, 3) := by decide +kernel
theorem dX0_lyingDown_42 : decode cX0_lyingDown 42 = .ok (.ifCond .eq 35, 3) := by decide +kernel
theorem dX0_lyingDown_45 : decode cX0_lyingDown 45 = .ok (.iload 4, 2) := by decide +kernel
theorem dX0_lyingDown_47 : decode cX0_lyingDown 47 = .ok (.aload_n 0, 1) := by decide +kernel
theorem dX0_lyingDown_48 : decode cX0_lyingDown 48 = .ok (.getfield 39, 3) := by decide +kernel
theorem dX0_lyingDown_51 : decode cX0_lyingDown 51 = .ok (.iload 6, 2) := by decide +kernel
theorem dX0_lyingDown_53 : decode cX0_lyingDown 53 = .ok (.iaload, 1) := by decide +kernel
theorem dX0_lyingDown_54 : decode cX0_lyingDown 54 = .ok (.iand, 1) := by decide +kernel
theorem dX0_lyingDown_55 : decode cX0_lyingDown 55 = .ok (.invokestatic 80, 3) := by decide +kernel
theorem dX0_lyingDown_58 : decode cX0_lyingDown 58 = .ok (.aload_n 0, 1) := by decide +kernel
theorem dX0_lyingDown_59 : decode cX0_lyingDown 59 = .ok (.getfield 9, 3) := by decide +kernel
theorem dX0_lyingDown_62 : decode cX0_lyingDown 62 = .ok (.iload 6, 2) := by decide +kernel
theorem dX0_lyingDown_64 : decode cX0_lyingDown 64 = .ok (.iaload, 1) := by decide +kernel
theorem dX0_lyingDown_65 : decode cX0_lyingDown 65 = .ok (.if_icmp .ge 12, 3) := by decide +kernel
theorem dX0_lyingDown_68 : decode cX0_lyingDown 68 = .ok (.iload 4, 2) := by decide +kernel
theorem dX0_lyingDown_70 : decode cX0_lyingDown 70 = .ok (.iconst 1, 1) := by decide +kernel
theorem dX0_lyingDown_71 : decode cX0_lyingDown 71 = .ok (.iload 5, 2) := by decide +kernel
theorem dX0_lyingDown_73 : decode cX0_lyingDown 73 = .ok (.ishl, 1) := by decide +kernel
theorem dX0_lyingDown_74 : decode cX0_lyingDown 74 = .ok (.ior, 1) := by decide +kernel
theorem dX0_lyingDown_75 : decode cX0_lyingDown 75 = .ok (.istore 4, 2) := by decide +kernel
theorem dX0_lyingDown_77 : decode cX0_lyingDown 77 = .ok (.iinc 5 1, 3) := by decide +kernel
theorem dX0_lyingDown_80 : decode cX0_lyingDown 80 = .ok (.goto (-68), 3) := by decide +kernel
theorem dX0_lyingDown_83 : decode cX0_lyingDown 83 = .ok (.iload 4, 2) := by decide +kernel
theorem dX0_lyingDown_85 : decode cX0_lyingDown 85 = .ok (.ireturn, 1) := by decide +kernel
theorem dX0_asleep_0 : decode cX0_asleep 0 = .ok (.aload_n 0, 1) := by decide +kernel
theorem dX0_asleep_1 : decode cX0_asleep 1 = .ok (.aload_n 1, 1) := by decide +kernel
theorem dX0_asleep_2 : decode cX0_asleep 2 = .ok (.iload_n 2, 1) := by decide +kernel
theorem dX0_asleep_3 : decode cX0_asleep 3 = .ok (.invokevirtual 106, 3) := by decide +kernel
theorem dX0_asleep_6 : decode cX0_asleep 6 = .ok (.aload_n 0, 1) := by decide +kernel
theorem dX0_asleep_7 : decode cX0_asleep 7 = .ok (.getfield 42, 3) := by decide +kernel
theorem dX0_asleep_10 : decode cX0_asleep 10 = .ok (.aload_n 1, 1) := by decide +kernel
theorem dX0_asleep_11 : decode cX0_asleep 11 = .ok (.getfield 96, 3) := by decide +kernel
theorem dX0_asleep_14 : decode cX0_asleep 14 = .ok (.iaload, 1) := by decide +kernel
theorem dX0_asleep_15 : decode cX0_asleep 15 = .ok (.iand, 1) := by decide +kernel
theorem dX0_asleep_16 : decode cX0_asleep 16 = .ok (.ireturn, 1) := by decide +kernel
theorem dX0_wokenBy_0 : decode cX0_wokenBy 0 = .ok (.iconst 0, 1) := by decide +kernel
theorem dX0_wokenBy_1 : decode cX0_wokenBy 1 = .ok (.istore_n 3, 1) := by decide +kernel
theorem dX0_wokenBy_2 : decode cX0_wokenBy 2 = .ok (.iconst 0, 1) := by decide +kernel
theorem dX0_wokenBy_3 : decode cX0_wokenBy 3 = .ok (.istore 4, 2) := by decide +kernel
theorem dX0_wokenBy_5 : decode cX0_wokenBy 5 = .ok (.iload 4, 2) := by decide +kernel
theorem dX0_wokenBy_7 : decode cX0_wokenBy 7 = .ok (.aload_n 0, 1) := by decide +kernel
theorem dX0_wokenBy_8 : decode cX0_wokenBy 8 = .ok (.getfield 56, 3) := by decide +kernel
theorem dX0_wokenBy_11 : decode cX0_wokenBy 11 = .ok (.if_icmp .ge 38, 3) := by decide +kernel
theorem dX0_wokenBy_14 : decode cX0_wokenBy 14 = .ok (.aload_n 0, 1) := by decide +kernel
theorem dX0_wokenBy_15 : decode cX0_wokenBy 15 = .ok (.getfield 18, 3) := by decide +kernel
theorem dX0_wokenBy_18 : decode cX0_wokenBy 18 = .ok (.iload 4, 2) := by decide +kernel
theorem dX0_wokenBy_20 : decode cX0_wokenBy 20 = .ok (.iaload, 1) := by decide +kernel
theorem dX0_wokenBy_21 : decode cX0_wokenBy 21 = .ok (.iload_n 1, 1) := by decide +kernel
theorem dX0_wokenBy_22 : decode cX0_wokenBy 22 = .ok (.if_icmp .ne 21, 3) := by decide +kernel
theorem dX0_wokenBy_25 : decode cX0_wokenBy 25 = .ok (.aload_n 0, 1) := by decide +kernel
theorem dX0_wokenBy_26 : decode cX0_wokenBy 26 = .ok (.getfield 27, 3) := by decide +kernel
theorem dX0_wokenBy_29 : decode cX0_wokenBy 29 = .ok (.iload 4, 2) := by decide +kernel
theorem dX0_wokenBy_31 : decode cX0_wokenBy 31 = .ok (.iaload, 1) := by decide +kernel
theorem dX0_wokenBy_32 : decode cX0_wokenBy 32 = .ok (.iload_n 2, 1) := by decide +kernel
theorem dX0_wokenBy_33 : decode cX0_wokenBy 33 = .ok (.if_icmp .ge 10, 3) := by decide +kernel
theorem dX0_wokenBy_36 : decode cX0_wokenBy 36 = .ok (.iload_n 3, 1) := by decide +kernel
theorem dX0_wokenBy_37 : decode cX0_wokenBy 37 = .ok (.iconst 1, 1) := by decide +kernel
theorem dX0_wokenBy_38 : decode cX0_wokenBy 38 = .ok (.iload 4, 2) := by decide +kernel
theorem dX0_wokenBy_40 : decode cX0_wokenBy 40 = .ok (.ishl, 1) := by decide +kernel
theorem dX0_wokenBy_41 : decode cX0_wokenBy 41 = .ok (.ior, 1) := by decide +kernel
theorem dX0_wokenBy_42 : decode cX0_wokenBy 42 = .ok (.istore_n 3, 1) := by decide +kernel
theorem dX0_wokenBy_43 : decode cX0_wokenBy 43 = .ok (.iinc 4 1, 3) := by decide +kernel
theorem dX0_wokenBy_46 : decode cX0_wokenBy 46 = .ok (.goto (-41), 3) := by decide +kernel
theorem dX0_wokenBy_49 : decode cX0_wokenBy 49 = .ok (.iload_n 3, 1) := by decide +kernel
theorem dX0_wokenBy_50 : decode cX0_wokenBy 50 = .ok (.ireturn, 1) := by decide +kernel
theorem dX0_wokenByAll_0 : decode cX0_wokenByAll 0 = .ok (.iconst 0, 1) := by decide +kernel
theorem dX0_wokenByAll_1 : decode cX0_wokenByAll 1 = .ok (.istore_n 2, 1) := by decide +kernel
theorem dX0_wokenByAll_2 : decode cX0_wokenByAll 2 = .ok (.iconst 0, 1) := by decide +kernel
theorem dX0_wokenByAll_3 : decode cX0_wokenByAll 3 = .ok (.istore_n 3, 1) := by decide +kernel
theorem dX0_wokenByAll_4 : decode cX0_wokenByAll 4 = .ok (.iload_n 3, 1) := by decide +kernel
theorem dX0_wokenByAll_5 : decode cX0_wokenByAll 5 = .ok (.aload_n 0, 1) := by decide +kernel
theorem dX0_wokenByAll_6 : decode cX0_wokenByAll 6 = .ok (.getfield 59, 3) := by decide +kernel
theorem dX0_wokenByAll_9 : decode cX0_wokenByAll 9 = .ok (.if_icmp .ge 36, 3) := by decide +kernel
theorem dX0_wokenByAll_12 : decode cX0_wokenByAll 12 = .ok (.iload_n 1, 1) := by decide +kernel
theorem dX0_wokenByAll_13 : decode cX0_wokenByAll 13 = .ok (.iload_n 3, 1) := by decide +kernel
theorem dX0_wokenByAll_14 : decode cX0_wokenByAll 14 = .ok (.invokestatic 69, 3) := by decide +kernel
theorem dX0_wokenByAll_17 : decode cX0_wokenByAll 17 = .ok (.ifCond .eq 22, 3) := by decide +kernel
theorem dX0_wokenByAll_20 : decode cX0_wokenByAll 20 = .ok (.iload_n 2, 1) := by decide +kernel
theorem dX0_wokenByAll_21 : decode cX0_wokenByAll 21 = .ok (.aload_n 0, 1) := by decide +kernel
theorem dX0_wokenByAll_22 : decode cX0_wokenByAll 22 = .ok (.aload_n 0, 1) := by decide +kernel
theorem dX0_wokenByAll_23 : decode cX0_wokenByAll 23 = .ok (.getfield 30, 3) := by decide +kernel
theorem dX0_wokenByAll_26 : decode cX0_wokenByAll 26 = .ok (.iload_n 3, 1) := by decide +kernel
theorem dX0_wokenByAll_27 : decode cX0_wokenByAll 27 = .ok (.iaload, 1) := by decide +kernel
theorem dX0_wokenByAll_28 : decode cX0_wokenByAll 28 = .ok (.aload_n 0, 1) := by decide +kernel
theorem dX0_wokenByAll_29 : decode cX0_wokenByAll 29 = .ok (.getfield 36, 3) := by decide +kernel
theorem dX0_wokenByAll_32 : decode cX0_wokenByAll 32 = .ok (.iload_n 3, 1) := by decide +kernel
theorem dX0_wokenByAll_33 : decode cX0_wokenByAll 33 = .ok (.iaload, 1) := by decide +kernel
theorem dX0_wokenByAll_34 : decode cX0_wokenByAll 34 = .ok (.invokevirtual 110, 3) := by decide +kernel
theorem dX0_wokenByAll_37 : decode cX0_wokenByAll 37 = .ok (.ior, 1) := by decide +kernel
theorem dX0_wokenByAll_38 : decode cX0_wokenByAll 38 = .ok (.istore_n 2, 1) := by decide +kernel
theorem dX0_wokenByAll_39 : decode cX0_wokenByAll 39 = .ok (.iinc 3 1, 3) := by decide +kernel
theorem dX0_wokenByAll_42 : decode cX0_wokenByAll 42 = .ok (.goto (-38), 3) := by decide +kernel
theorem dX0_wokenByAll_45 : decode cX0_wokenByAll 45 = .ok (.iload_n 2, 1) := by decide +kernel
theorem dX0_wokenByAll_46 : decode cX0_wokenByAll 46 = .ok (.ireturn, 1) := by decide +kernel
theorem dX0_noisesOf_0 : decode cX0_noisesOf 0 = .ok (.iconst 0, 1) := by decide +kernel
theorem dX0_noisesOf_1 : decode cX0_noisesOf 1 = .ok (.istore_n 2, 1) := by decide +kernel
theorem dX0_noisesOf_2 : decode cX0_noisesOf 2 = .ok (.iconst 0, 1) := by decide +kernel
theorem dX0_noisesOf_3 : decode cX0_noisesOf 3 = .ok (.istore_n 3, 1) := by decide +kernel
theorem dX0_noisesOf_4 : decode cX0_noisesOf 4 = .ok (.iload_n 3, 1) := by decide +kernel
theorem dX0_noisesOf_5 : decode cX0_noisesOf 5 = .ok (.aload_n 0, 1) := by decide +kernel
theorem dX0_noisesOf_6 : decode cX0_noisesOf 6 = .ok (.getfield 59, 3) := by decide +kernel
theorem dX0_noisesOf_9 : decode cX0_noisesOf 9 = .ok (.if_icmp .ge 25, 3) := by decide +kernel
theorem dX0_noisesOf_12 : decode cX0_noisesOf 12 = .ok (.aload_n 0, 1) := by decide +kernel
theorem dX0_noisesOf_13 : decode cX0_noisesOf 13 = .ok (.getfield 33, 3) := by decide +kernel
theorem dX0_noisesOf_16 : decode cX0_noisesOf 16 = .ok (.iload_n 3, 1) := by decide +kernel
theorem dX0_noisesOf_17 : decode cX0_noisesOf 17 = .ok (.iaload, 1) := by decide +kernel
theorem dX0_noisesOf_18 : decode cX0_noisesOf 18 = .ok (.iload_n 1, 1) := by decide +kernel
theorem dX0_noisesOf_19 : decode cX0_noisesOf 19 = .ok (.if_icmp .ne 9, 3) := by decide +kernel
theorem dX0_noisesOf_22 : decode cX0_noisesOf 22 = .ok (.iload_n 2, 1) := by decide +kernel
theorem dX0_noisesOf_23 : decode cX0_noisesOf 23 = .ok (.iconst 1, 1) := by decide +kernel
theorem dX0_noisesOf_24 : decode cX0_noisesOf 24 = .ok (.iload_n 3, 1) := by decide +kernel
theorem dX0_noisesOf_25 : decode cX0_noisesOf 25 = .ok (.ishl, 1) := by decide +kernel
theorem dX0_noisesOf_26 : decode cX0_noisesOf 26 = .ok (.ior, 1) := by decide +kernel
theorem dX0_noisesOf_27 : decode cX0_noisesOf 27 = .ok (.istore_n 2, 1) := by decide +kernel
theorem dX0_noisesOf_28 : decode cX0_noisesOf 28 = .ok (.iinc 3 1, 3) := by decide +kernel
theorem dX0_noisesOf_31 : decode cX0_noisesOf 31 = .ok (.goto (-27), 3) := by decide +kernel
theorem dX0_noisesOf_34 : decode cX0_noisesOf 34 = .ok (.iload_n 2, 1) := by decide +kernel
theorem dX0_noisesOf_35 : decode cX0_noisesOf 35 = .ok (.ireturn, 1) := by decide +kernel
end
section
theorem dX1_init_0 : decode cX1_init 0 = .ok (.aload_n 0, 1) := by decide +kernel
theorem dX1_init_1 : decode cX1_init 1 = .ok (.invokespecial 3, 3) := by decide +kernel
theorem dX1_init_4 : decode cX1_init 4 = .ok (.aload_n 0, 1) := by decide +kernel
theorem dX1_init_5 : decode cX1_init 5 = .ok (.bipush 6, 2) := by decide +kernel
theorem dX1_init_7 : decode cX1_init 7 = .ok (.newarray .int, 2) := by decide +kernel
theorem dX1_init_9 : decode cX1_init 9 = .ok (.putfield 9, 3) := by decide +kernel
theorem dX1_init_12 : decode cX1_init 12 = .ok (.aload_n 0, 1) := by decide +kernel
theorem dX1_init_13 : decode cX1_init 13 = .ok (.bipush 6, 2) := by decide +kernel
theorem dX1_init_15 : decode cX1_init 15 = .ok (.newarray .int, 2) := by decide +kernel
theorem dX1_init_17 : decode cX1_init 17 = .ok (.putfield 15, 3) := by decide +kernel
theorem dX1_init_20 : decode cX1_init 20 = .ok (.aload_n 0, 1) := by decide +kernel
theorem dX1_init_21 : decode cX1_init 21 = .ok (.bipush 6, 2) := by decide +kernel
theorem dX1_init_23 : decode cX1_init 23 = .ok (.newarray .int, 2) := by decide +kernel
theorem dX1_init_25 : decode cX1_init 25 = .ok (.putfield 18, 3) := by decide +kernel
theorem dX1_init_28 : decode cX1_init 28 = .ok (.return_, 1) := by decide +kernel
theorem dX1_begin_0 : decode cX1_begin 0 = .ok (.aload_n 0, 1) := by decide +kernel
theorem dX1_begin_1 : decode cX1_begin 1 = .ok (.iconst 0, 1) := by decide +kernel
theorem dX1_begin_2 : decode cX1_begin 2 = .ok (.putfield 21, 3) := by decide +kernel
theorem dX1_begin_5 : decode cX1_begin 5 = .ok (.aload_n 0, 1) := by decide +kernel
theorem dX1_begin_6 : decode cX1_begin 6 = .ok (.iconst 0, 1) := by decide +kernel
theorem dX1_begin_7 : decode cX1_begin 7 = .ok (.putfield 25, 3) := by decide +kernel
theorem dX1_begin_10 : decode cX1_begin 10 = .ok (.aload_n 0, 1) := by decide +kernel
theorem dX1_begin_11 : decode cX1_begin 11 = .ok (.iconst 0, 1) := by decide +kernel
theorem dX1_begin_12 : decode cX1_begin 12 = .ok (.putfield 28, 3) := by decide +kernel
theorem dX1_begin_15 : decode cX1_begin 15 = .ok (.iconst 0, 1) := by decide +kernel
theorem dX1_begin_16 : decode cX1_begin 16 = .ok (.istore_n 2, 1) := by decide +kernel
theorem dX1_begin_17 : decode cX1_begin 17 = .ok (.iload_n 2, 1) := by decide +kernel
theorem dX1_begin_18 : decode cX1_begin 18 = .ok (.bipush 6, 2) := by decide +kernel
theorem dX1_begin_20 : decode cX1_begin 20 = .ok (.if_icmp .ge 35, 3) := by decide +kernel
theorem dX1_begin_23 : decode cX1_begin 23 = .ok (.aload_n 0, 1) := by decide +kernel
theorem dX1_begin_24 : decode cX1_begin 24 = .ok (.getfield 9, 3) := by decide +kernel
theorem dX1_begin_27 : decode cX1_begin 27 = .ok (.iload_n 2, 1) := by decide +kernel
theorem dX1_begin_28 : decode cX1_begin 28 = .ok (.aload_n 1, 1) := by decide +kernel
theorem dX1_begin_29 : decode cX1_begin 29 = .ok (.getfield 31, 3) := by decide +kernel
theorem dX1_begin_32 : decode cX1_begin 32 = .ok (.iload_n 2, 1) := by decide +kernel
theorem dX1_begin_33 : decode cX1_begin 33 = .ok (.iaload, 1) := by decide +kernel
theorem dX1_begin_34 : decode cX1_begin 34 = .ok (.iastore, 1) := by decide +kernel
theorem dX1_begin_35 : decode cX1_begin 35 = .ok (.aload_n 0, 1) := by decide +kernel
theorem dX1_begin_36 : decode cX1_begin 36 = .ok (.getfield 15, 3) := by decide +kernel
theorem dX1_begin_39 : decode cX1_begin 39 = .ok (.iload_n 2, 1) := by decide +kernel
theorem dX1_begin_40 : decode cX1_begin 40 = .ok (.iconst 0, 1) := by decide +kernel
theorem dX1_begin_41 : decode cX1_begin 41 = .ok (.iastore, 1) := by decide +kernel
theorem dX1_begin_42 : decode cX1_begin 42 = .ok (.aload_n 0, 1) := by decide +kernel
theorem dX1_begin_43 : decode cX1_begin 43 = .ok (.getfield 18, 3) := by decide +kernel
theorem dX1_begin_46 : decode cX1_begin 46 = .ok (.iload_n 2, 1) := by decide +kernel
theorem dX1_begin_47 : decode cX1_begin 47 = .ok (.iconst 0, 1) := by decide +kernel
theorem dX1_begin_48 : decode cX1_begin 48 = .ok (.iastore, 1) := by decide +kernel
theorem dX1_begin_49 : decode cX1_begin 49 = .ok (.iinc 2 1, 3) := by decide +kernel
theorem dX1_begin_52 : decode cX1_begin 52 = .ok (.goto (-35), 3) := by decide +kernel
theorem dX1_begin_55 : decode cX1_begin 55 = .ok (.return_, 1) := by decide +kernel
theorem dX1_become_0 : decode cX1_become 0 = .ok (.aload_n 0, 1) := by decide +kernel
theorem dX1_become_1 : decode cX1_become 1 = .ok (.aload_n 1, 1) := by decide +kernel
theorem dX1_become_2 : decode cX1_become 2 = .ok (.getfield 21, 3) := by decide +kernel
theorem dX1_become_5 : decode cX1_become 5 = .ok (.putfield 21, 3) := by decide +kernel
theorem dX1_become_8 : decode cX1_become 8 = .ok (.aload_n 0, 1) := by decide +kernel
theorem dX1_become_9 : decode cX1_become 9 = .ok (.aload_n 1, 1) := by decide +kernel
theorem dX1_become_10 : decode cX1_become 10 = .ok (.getfield 25, 3) := by decide +kernel
theorem dX1_become_13 : decode cX1_become 13 = .ok (.putfield 25, 3) := by decide +kernel
theorem dX1_become_16 : decode cX1_become 16 = .ok (.aload_n 0, 1) := by decide +kernel
theorem dX1_become_17 : decode cX1_become 17 = .ok (.aload_n 1, 1) := by decide +kernel
theorem dX1_become_18 : decode cX1_become 18 = .ok (.getfield 28, 3) := by decide +kernel
theorem dX1_become_21 : decode cX1_become 21 = .ok (.putfield 28, 3) := by decide +kernel
theorem dX1_become_24 : decode cX1_become 24 = .ok (.aload_n 1, 1) := by decide +kernel
theorem dX1_become_25 : decode cX1_become 25 = .ok (.getfield 9, 3) := by decide +kernel
theorem dX1_become_28 : decode cX1_become 28 = .ok (.iconst 0, 1) := by decide +kernel
theorem dX1_become_29 : decode cX1_become 29 = .ok (.aload_n 0, 1) := by decide +kernel
theorem dX1_become_30 : decode cX1_become 30 = .ok (.getfield 9, 3) := by decide +kernel
theorem dX1_become_33 : decode cX1_become 33 = .ok (.iconst 0, 1) := by decide +kernel
theorem dX1_become_34 : decode cX1_become 34 = .ok (.bipush 6, 2) := by decide +kernel
theorem dX1_become_36 : decode cX1_become 36 = .ok (.invokestatic 36, 3) := by decide +kernel
theorem dX1_become_39 : decode cX1_become 39 = .ok (.aload_n 1, 1) := by decide +kernel
theorem dX1_become_40 : decode cX1_become 40 = .ok (.getfield 15, 3) := by decide +kernel
theorem dX1_become_43 : decode cX1_become 43 = .ok (.iconst 0, 1) := by decide +kernel
theorem dX1_become_44 : decode cX1_become 44 = .ok (.aload_n 0, 1) := by decide +kernel
theorem dX1_become_45 : decode cX1_become 45 = .ok (.getfield 15, 3) := by decide +kernel
theorem dX1_become_48 : decode cX1_become 48 = .ok (.iconst 0, 1) := by decide +kernel
theorem dX1_become_49 : decode cX1_become 49 = .ok (.bipush 6, 2) := by decide +kernel
theorem dX1_become_51 : decode cX1_become 51 = .ok (.invokestatic 36, 3) := by decide +kernel
theorem dX1_become_54 : decode cX1_become 54 = .ok (.aload_n 1, 1) := by decide +kernel
theorem dX1_become_55 : decode cX1_become 55 = .ok (.getfield 18, 3) := by decide +kernel
theorem dX1_become_58 : decode cX1_become 58 = .ok (.iconst 0, 1) := by decide +kernel
theorem dX1_become_59 : decode cX1_become 59 = .ok (.aload_n 0, 1) := by decide +kernel
theorem dX1_become_60 : decode cX1_become 60 = .ok (.getfield 18, 3) := by decide +kernel
theorem dX1_become_63 : decode cX1_become 63 = .ok (.iconst 0, 1) := by decide +kernel
theorem dX1_become_64 : decode cX1_become 64 = .ok (.bipush 6, 2) := by decide +kernel
theorem dX1_become_66 : decode cX1_become 66 = .ok (.invokestatic 36, 3) := by decide +kernel
theorem dX1_become_69 : decode cX1_become 69 = .ok (.return_, 1) := by decide +kernel
theorem dX1_pass_0 : decode cX1_pass 0 = .ok (.aload_n 0, 1) := by decide +kernel
theorem dX1_pass_1 : decode cX1_pass 1 = .ok (.getfield 9, 3) := by decide +kernel
theorem dX1_pass_4 : decode cX1_pass 4 = .ok (.iload_n 2, 1) := by decide +kernel
theorem dX1_pass_5 : decode cX1_pass 5 = .ok (.aload_n 0, 1) := by decide +kernel
theorem dX1_pass_6 : decode cX1_pass 6 = .ok (.getfield 9, 3) := by decide +kernel
theorem dX1_pass_9 : decode cX1_pass 9 = .ok (.invokestatic 42, 3) := by decide +kernel
theorem dX1_pass_12 : decode cX1_pass 12 = .ok (.iconst 0, 1) := by decide +kernel
theorem dX1_pass_13 : decode cX1_pass 13 = .ok (.istore_n 3, 1) := by decide +kernel
theorem dX1_pass_14 : decode cX1_pass 14 = .ok (.iload_n 3, 1) := by decide +kernel
theorem dX1_pass_15 : decode cX1_pass 15 = .ok (.aload_n 1, 1) := by decide +kernel
theorem dX1_pass_16 : decode cX1_pass 16 = .ok (.getfield 46, 3) := by decide +kernel
theorem dX1_pass_19 : decode cX1_pass 19 = .ok (.if_icmp .ge 23, 3) := by decide +kernel
theorem dX1_pass_22 : decode cX1_pass 22 = .ok (.aload_n 0, 1) := by decide +kernel
theorem dX1_pass_23 : decode cX1_pass 23 = .ok (.getfield 18, 3) := by decide +kernel
theorem dX1_pass_26 : decode cX1_pass 26 = .ok (.iload_n 3, 1) := by decide +kernel
theorem dX1_pass_27 : decode cX1_pass 27 = .ok (.dup2, 1) := by decide +kernel
theorem dX1_pass_28 : decode cX1_pass 28 = .ok (.iaload, 1) := by decide +kernel
theorem dX1_pass_29 : decode cX1_pass 29 = .ok (.iload_n 2, 1) := by decide +kernel
theorem dX1_pass_30 : decode cX1_pass 30 = .ok (.iload_n 3, 1) := by decide +kernel
theorem dX1_pass_31 : decode cX1_pass 31 = .ok (.ishr, 1) := by decide +kernel
theorem dX1_pass_32 : decode cX1_pass 32 = .ok (.iconst 1, 1) := by decide +kernel
theorem dX1_pass_33 : decode cX1_pass 33 = .ok (.iand, 1) := by decide +kernel
theorem dX1_pass_34 : decode cX1_pass 34 = .ok (.iadd, 1) := by decide +kernel
theorem dX1_pass_35 : decode cX1_pass 35 = .ok (.iastore, 1) := by decide +kernel
theorem dX1_pass_36 : decode cX1_pass 36 = .ok (.iinc 3 1, 3) := by decide +kernel
theorem dX1_pass_39 : decode cX1_pass 39 = .ok (.goto (-25), 3) := by decide +kernel
theorem dX1_pass_42 : decode cX1_pass 42 = .ok (.iload_n 2, 1) := by decide +kernel
theorem dX1_pass_43 : decode cX1_pass 43 = .ok (.invokestatic 49, 3) := by decide +kernel
theorem dX1_pass_46 : decode cX1_pass 46 = .ok (.aload_n 1, 1) := by decide +kernel
theorem dX1_pass_47 : decode cX1_pass 47 = .ok (.getfield 55, 3) := by decide +kernel
theorem dX1_pass_50 : decode cX1_pass 50 = .ok (.if_icmp .ge 13, 3) := by decide +kernel
theorem dX1_pass_53 : decode cX1_pass 53 = .ok (.aload_n 0, 1) := by decide +kernel
theorem dX1_pass_54 : decode cX1_pass 54 = .ok (.dup, 1) := by decide +kernel
theorem dX1_pass_55 : decode cX1_pass 55 = .ok (.getfield 28, 3) := by decide +kernel
theorem dX1_pass_58 : decode cX1_pass 58 = .ok (.iconst 1, 1) := by decide +kernel
theorem dX1_pass_59 : decode cX1_pass 59 = .ok (.iadd, 1) := by decide +kernel
theorem dX1_pass_60 : decode cX1_pass 60 = .ok (.putfield 28, 3) := by decide +kernel
theorem dX1_pass_63 : decode cX1_pass 63 = .ok (.aload_n 0, 1) := by decide +kernel
theorem dX1_pass_64 : decode cX1_pass 64 = .ok (.dup, 1) := by decide +kernel
theorem dX1_pass_65 : decode cX1_pass 65 = .ok (.getfield 25, 3) := by decide +kernel
theorem dX1_pass_68 : decode cX1_pass 68 = .ok (.iconst 1, 1) := by decide +kernel
theorem dX1_pass_69 : decode cX1_pass 69 = .ok (.iadd, 1) := by decide +kernel
theorem dX1_pass_70 : decode cX1_pass 70 = .ok (.putfield 25, 3) := by decide +kernel
theorem dX1_pass_73 : decode cX1_pass 73 = .ok (.aload_n 0, 1) := by decide +kernel
theorem dX1_pass_74 : decode cX1_pass 74 = .ok (.getfield 25, 3) := by decide +kernel
theorem dX1_pass_77 : decode cX1_pass 77 = .ok (.bipush 8, 2) := by decide +kernel
theorem dX1_pass_79 : decode cX1_pass 79 = .ok (.if_icmp .lt 18, 3) := by decide +kernel
theorem dX1_pass_82 : decode cX1_pass 82 = .ok (.aload_n 0, 1) := by decide +kernel
theorem dX1_pass_83 : decode cX1_pass 83 = .ok (.iconst 0, 1) := by decide +kernel
theorem dX1_pass_84 : decode cX1_pass 84 = .ok (.putfield 25, 3) := by decide +kernel
theorem dX1_pass_87 : decode cX1_pass 87 = .ok (.aload_n 0, 1) := by decide +kernel
theorem dX1_pass_88 : decode cX1_pass 88 = .ok (.dup, 1) := by decide +kernel
theorem dX1_pass_89 : decode cX1_pass 89 = .ok (.getfield 21, 3) := by decide +kernel
theorem dX1_pass_92 : decode cX1_pass 92 = .ok (.iconst 1, 1) := by decide +kernel
theorem dX1_pass_93 : decode cX1_pass 93 = .ok (.iadd, 1) := by decide +kernel
theorem dX1_pass_94 : decode cX1_pass 94 = .ok (.putfield 21, 3) := by decide +kernel
theorem dX1_pass_97 : decode cX1_pass 97 = .ok (.return_, 1) := by decide +kernel
end
section
theorem dX2_init_0 : decode cX2_init 0 = .ok (.aload_n 0, 1) := by decide +kernel
theorem dX2_init_1 : decode cX2_init 1 = .ok (.invokespecial 3, 3) := by decide +kernel
theorem dX2_init_4 : decode cX2_init 4 = .ok (.aload_n 0, 1) := by decide +kernel
theorem dX2_init_5 : decode cX2_init 5 = .ok (.sipush 200, 3) := by decide +kernel
theorem dX2_init_8 : decode cX2_init 8 = .ok (.newarray .char, 2) := by decide +kernel
theorem dX2_init_10 : decode cX2_init 10 = .ok (.putfield 9, 3) := by decide +kernel
theorem dX2_init_13 : decode cX2_init 13 = .ok (.aload_n 0, 1) := by decide +kernel
theorem dX2_init_14 : decode cX2_init 14 = .ok (.iconst 4, 1) := by decide +kernel
theorem dX2_init_15 : decode cX2_init 15 = .ok (.newarray .int, 2) := by decide +kernel
theorem dX2_init_17 : decode cX2_init 17 = .ok (.putfield 15, 3) := by decide +kernel
theorem dX2_init_20 : decode cX2_init 20 = .ok (.return_, 1) := by decide +kernel
theorem dX2_readInto_0 : decode cX2_readInto 0 = .ok (.aload_n 1, 1) := by decide +kernel
theorem dX2_readInto_1 : decode cX2_readInto 1 = .ok (.invokevirtual 19, 3) := by decide +kernel
theorem dX2_readInto_4 : decode cX2_readInto 4 = .ok (.aload_n 0, 1) := by decide +kernel
theorem dX2_readInto_5 : decode cX2_readInto 5 = .ok (.iconst 0, 1) := by decide +kernel
theorem dX2_readInto_6 : decode cX2_readInto 6 = .ok (.putfield 24, 3) := by decide +kernel
theorem dX2_readInto_9 : decode cX2_readInto 9 = .ok (.aload_n 0, 1) := by decide +kernel
theorem dX2_readInto_10 : decode cX2_readInto 10 = .ok (.invokevirtual 28, 3) := by decide +kernel
theorem dX2_readInto_13 : decode cX2_readInto 13 = .ok (.iconst 0, 1) := by decide +kernel
theorem dX2_readInto_14 : decode cX2_readInto 14 = .ok (.istore_n 2, 1) := by decide +kernel
theorem dX2_readInto_15 : decode cX2_readInto 15 = .ok (.iload_n 2, 1) := by decide +kernel
theorem dX2_readInto_16 : decode cX2_readInto 16 = .ok (.sipush 200, 3) := by decide +kernel
theorem dX2_readInto_19 : decode cX2_readInto 19 = .ok (.if_icmp .gt 46, 3) := by decide +kernel
theorem dX2_readInto_22 : decode cX2_readInto 22 = .ok (.aload_n 0, 1) := by decide +kernel
theorem dX2_readInto_23 : decode cX2_readInto 23 = .ok (.getfield 31, 3) := by decide +kernel
theorem dX2_readInto_26 : decode cX2_readInto 26 = .ok (.sipush 258, 3) := by decide +kernel
theorem dX2_readInto_29 : decode cX2_readInto 29 = .ok (.if_icmp .ne 9, 3) := by decide +kernel
theorem dX2_readInto_32 : decode cX2_readInto 32 = .ok (.aload_n 1, 1) := by decide +kernel
theorem dX2_readInto_33 : decode cX2_readInto 33 = .ok (.invokevirtual 34, 3) := by decide +kernel
theorem dX2_readInto_36 : decode cX2_readInto 36 = .ok (.iload_n 2, 1) := by decide +kernel
theorem dX2_readInto_37 : decode cX2_readInto 37 = .ok (.ireturn, 1) := by decide +kernel
theorem dX2_readInto_38 : decode cX2_readInto 38 = .ok (.aload_n 0, 1) := by decide +kernel
theorem dX2_readInto_39 : decode cX2_readInto 39 = .ok (.aload_n 1, 1) := by decide +kernel
theorem dX2_readInto_40 : decode cX2_readInto 40 = .ok (.iload_n 2, 1) := by decide +kernel
theorem dX2_readInto_41 : decode cX2_readInto 41 = .ok (.invokevirtual 37, 3) := by decide +kernel
theorem dX2_readInto_44 : decode cX2_readInto 44 = .ok (.ifCond .ne 11, 3) := by decide +kernel
theorem dX2_readInto_47 : decode cX2_readInto 47 = .ok (.bipush (-10), 2) := by decide +kernel
theorem dX2_readInto_49 : decode cX2_readInto 49 = .ok (.aload_n 0, 1) := by decide +kernel
theorem dX2_readInto_50 : decode cX2_readInto 50 = .ok (.getfield 41, 3) := by decide +kernel
theorem dX2_readInto_53 : decode cX2_readInto 53 = .ok (.isub, 1) := by decide +kernel
theorem dX2_readInto_54 : decode cX2_readInto 54 = .ok (.ireturn, 1) := by decide +kernel
theorem dX2_readInto_55 : decode cX2_readInto 55 = .ok (.aload_n 0, 1) := by decide +kernel
theorem dX2_readInto_56 : decode cX2_readInto 56 = .ok (.invokevirtual 28, 3) := by decide +kernel
theorem dX2_readInto_59 : decode cX2_readInto 59 = .ok (.iinc 2 1, 3) := by decide +kernel
theorem dX2_readInto_62 : decode cX2_readInto 62 = .ok (.goto (-47), 3) := by decide +kernel
theorem dX2_readInto_65 : decode cX2_readInto 65 = .ok (.bipush (-10), 2) := by decide +kernel
theorem dX2_readInto_67 : decode cX2_readInto 67 = .ok (.aload_n 0, 1) := by decide +kernel
theorem dX2_readInto_68 : decode cX2_readInto 68 = .ok (.getfield 41, 3) := by decide +kernel
theorem dX2_readInto_71 : decode cX2_readInto 71 = .ok (.isub, 1) := by decide +kernel
theorem dX2_readInto_72 : decode cX2_readInto 72 = .ok (.ireturn, 1) := by decide +kernel
theorem dX2_readItem_0 : decode cX2_readItem 0 = .ok (.aload_n 0, 1) := by decide +kernel
theorem dX2_readItem_1 : decode cX2_readItem 1 = .ok (.getfield 31, 3) := by decide +kernel
theorem dX2_readItem_4 : decode cX2_readItem 4 = .ok (.istore_n 3, 1) := by decide +kernel
theorem dX2_readItem_5 : decode cX2_readItem 5 = .ok (.aload_n 1, 1) := by decide +kernel
theorem dX2_readItem_6 : decode cX2_readItem 6 = .ok (.iload_n 3, 1) := by decide +kernel
theorem dX2_readItem_7 : decode cX2_readItem 7 = .ok (.iload_n 2, 1) := by decide +kernel
theorem dX2_readItem_8 : decode cX2_readItem 8 = .ok (.invokevirtual 44, 3) := by decide +kernel
theorem dX2_readItem_11 : decode cX2_readItem 11 = .ok (.ifCond .ne 5, 3) := by decide +kernel
theorem dX2_readItem_14 : decode cX2_readItem 14 = .ok (.iconst 0, 1) := by decide +kernel
theorem dX2_readItem_15 : decode cX2_readItem 15 = .ok (.ireturn, 1) := by decide +kernel
theorem dX2_readItem_16 : decode cX2_readItem 16 = .ok (.iload_n 3, 1) := by decide +kernel
theorem dX2_readItem_17 : decode cX2_readItem 17 = .ok (.invokestatic 48, 3) := by decide +kernel
theorem dX2_readItem_20 : decode cX2_readItem 20 = .ok (.istore 4, 2) := by decide +kernel
theorem dX2_readItem_22 : decode cX2_readItem 22 = .ok (.iconst 0, 1) := by decide +kernel
theorem dX2_readItem_23 : decode cX2_readItem 23 = .ok (.istore 5, 2) := by decide +kernel
theorem dX2_readItem_25 : decode cX2_readItem 25 = .ok (.iload 5, 2) := by decide +kernel
theorem dX2_readItem_27 : decode cX2_readItem 27 = .ok (.iload 4, 2) := by decide +kernel
theorem dX2_readItem_29 : decode cX2_readItem 29 = .ok (.if_icmp .ge 47, 3) := by decide +kernel
theorem dX2_readItem_32 : decode cX2_readItem 32 = .ok (.aload_n 0, 1) := by decide +kernel
theorem dX2_readItem_33 : decode cX2_readItem 33 = .ok (.invokevirtual 28, 3) := by decide +kernel
theorem dX2_readItem_36 : decode cX2_readItem 36 = .ok (.aload_n 0, 1) := by decide +kernel
theorem dX2_readItem_37 : decode cX2_readItem 37 = .ok (.getfield 31, 3) := by decide +kernel
theorem dX2_readItem_40 : decode cX2_readItem 40 = .ok (.sipush 256, 3) := by decide +kernel
theorem dX2_readItem_43 : decode cX2_readItem 43 = .ok (.if_icmp .ne 14, 3) := by decide +kernel
theorem dX2_readItem_46 : decode cX2_readItem 46 = .ok (.aload_n 0, 1) := by decide +kernel
theorem dX2_readItem_47 : decode cX2_readItem 47 = .ok (.aload_n 1, 1) := by decide +kernel
theorem dX2_readItem_48 : decode cX2_readItem 48 = .ok (.iload_n 3, 1) := by decide +kernel
theorem dX2_readItem_49 : decode cX2_readItem 49 = .ok (.iload 5, 2) := by decide +kernel
theorem dX2_readItem_51 : decode cX2_readItem 51 = .ok (.invokevirtual 52, 3) := by decide +kernel
theorem dX2_readItem_54 : decode cX2_readItem 54 = .ok (.ifCond .ne 5, 3) := by decide +kernel
theorem dX2_readItem_57 : decode cX2_readItem 57 = .ok (.iconst 0, 1) := by decide +kernel
theorem dX2_readItem_58 : decode cX2_readItem 58 = .ok (.ireturn, 1) := by decide +kernel
theorem dX2_readItem_59 : decode cX2_readItem 59 = .ok (.aload_n 0, 1) := by decide +kernel
theorem dX2_readItem_60 : decode cX2_readItem 60 = .ok (.getfield 15, 3) := by decide +kernel
theorem dX2_readItem_63 : decode cX2_readItem 63 = .ok (.iload 5, 2) := by decide +kernel
theorem dX2_readItem_65 : decode cX2_readItem 65 = .ok (.aload_n 0, 1) := by decide +kernel
theorem dX2_readItem_66 : decode cX2_readItem 66 = .ok (.getfield 56, 3) := by decide +kernel
theorem dX2_readItem_69 : decode cX2_readItem 69 = .ok (.iastore, 1) := by decide +kernel
theorem dX2_readItem_70 : decode cX2_readItem 70 = .ok (.iinc 5 1, 3) := by decide +kernel
theorem dX2_readItem_73 : decode cX2_readItem 73 = .ok (.goto (-48), 3) := by decide +kernel
theorem dX2_readItem_76 : decode cX2_readItem 76 = .ok (.aload_n 0, 1) := by decide +kernel
theorem dX2_readItem_77 : decode cX2_readItem 77 = .ok (.invokevirtual 28, 3) := by decide +kernel
theorem dX2_readItem_80 : decode cX2_readItem 80 = .ok (.aload_n 0, 1) := by decide +kernel
theorem dX2_readItem_81 : decode cX2_readItem 81 = .ok (.getfield 31, 3) := by decide +kernel
theorem dX2_readItem_84 : decode cX2_readItem 84 = .ok (.bipush 59, 2) := by decide +kernel
theorem dX2_readItem_86 : decode cX2_readItem 86 = .ok (.if_icmp .eq 5, 3) := by decide +kernel
theorem dX2_readItem_89 : decode cX2_readItem 89 = .ok (.iconst 0, 1) := by decide +kernel
theorem dX2_readItem_90 : decode cX2_readItem 90 = .ok (.ireturn, 1) := by decide +kernel
theorem dX2_readItem_91 : decode cX2_readItem 91 = .ok (.aload_n 1, 1) := by decide +kernel
theorem dX2_readItem_92 : decode cX2_readItem 92 = .ok (.iload_n 3, 1) := by decide +kernel
theorem dX2_readItem_93 : decode cX2_readItem 93 = .ok (.aload_n 0, 1) := by decide +kernel
theorem dX2_readItem_94 : decode cX2_readItem 94 = .ok (.getfield 15, 3) := by decide +kernel
theorem dX2_readItem_97 : decode cX2_readItem 97 = .ok (.invokevirtual 59, 3) := by decide +kernel
theorem dX2_readItem_100 : decode cX2_readItem 100 = .ok (.iconst 1, 1) := by decide +kernel
theorem dX2_readItem_101 : decode cX2_readItem 101 = .ok (.ireturn, 1) := by decide +kernel
theorem dX2_howManyNumbers_0 : decode cX2_howManyNumbers 0 = .ok (.iload_n 0, 1) := by decide +kernel
theorem dX2_howManyNumbers_1 : decode cX2_howManyNumbers 1 = .ok (.lookupswitch 51 #[(98, 49), (99, 43), (101, 47), (110, 45)], 43) := by decide +kernel
theorem dX2_howManyNumbers_44 : decode cX2_howManyNumbers 44 = .ok (.iconst 4, 1) := by decide +kernel
theorem dX2_howManyNumbers_45 : decode cX2_howManyNumbers 45 = .ok (.ireturn, 1) := by decide +kernel
theorem dX2_howManyNumbers_46 : decode cX2_howManyNumbers 46 = .ok (.iconst 3, 1) := by decide +kernel
theorem dX2_howManyNumbers_47 : decode cX2_howManyNumbers 47 = .ok (.ireturn, 1) := by decide +kernel
theorem dX2_howManyNumbers_48 : decode cX2_howManyNumbers 48 = .ok (.iconst 2, 1) := by decide +kernel
theorem dX2_howManyNumbers_49 : decode cX2_howManyNumbers 49 = .ok (.ireturn, 1) := by decide +kernel
theorem dX2_howManyNumbers_50 : decode cX2_howManyNumbers 50 = .ok (.iconst 2, 1) := by decide +kernel
theorem dX2_howManyNumbers_51 : decode cX2_howManyNumbers 51 = .ok (.ireturn, 1) := by decide +kernel
theorem dX2_howManyNumbers_52 : decode cX2_howManyNumbers 52 = .ok (.iconst 1, 1) := by decide +kernel
theorem dX2_howManyNumbers_53 : decode cX2_howManyNumbers 53 = .ok (.ireturn, 1) := by decide +kernel
theorem dX2_mayStand_0 : decode cX2_mayStand 0 = .ok (.iload_n 2, 1) := by decide +kernel
theorem dX2_mayStand_1 : decode cX2_mayStand 1 = .ok (.lookupswitch 42 #[(100, 27), (113, 34)], 27) := by decide +kernel
theorem dX2_mayStand_28 : decode cX2_mayStand 28 = .ok (.aload_n 0, 1) := by decide +kernel
theorem dX2_mayStand_29 : decode cX2_mayStand 29 = .ok (.iconst 1, 1) := by decide +kernel
theorem dX2_mayStand_30 : decode cX2_mayStand 30 = .ok (.iconst 4, 1) := by decide +kernel
theorem dX2_mayStand_31 : decode cX2_mayStand 31 = .ok (.invokevirtual 63, 3) := by decide +kernel
theorem dX2_mayStand_34 : decode cX2_mayStand 34 = .ok (.ireturn, 1) := by decide +kernel
theorem dX2_mayStand_35 : decode cX2_mayStand 35 = .ok (.aload_n 0, 1) := by decide +kernel
theorem dX2_mayStand_36 : decode cX2_mayStand 36 = .ok (.iconst 0, 1) := by decide +kernel
theorem dX2_mayStand_37 : decode cX2_mayStand 37 = .ok (.bipush 6, 2) := by decide +kernel
theorem dX2_mayStand_39 : decode cX2_mayStand 39 = .ok (.invokevirtual 63, 3) := by decide +kernel
theorem dX2_mayStand_42 : decode cX2_mayStand 42 = .ok (.ireturn, 1) := by decide +kernel
theorem dX2_mayStand_43 : decode cX2_mayStand 43 = .ok (.iload_n 3, 1) := by decide +kernel
theorem dX2_mayStand_44 : decode cX2_mayStand 44 = .ok (.ifCond .ne 15, 3) := by decide +kernel
theorem dX2_mayStand_47 : decode cX2_mayStand 47 = .ok (.aload_n 0, 1) := by decide +kernel
theorem dX2_mayStand_48 : decode cX2_mayStand 48 = .ok (.iconst 0, 1) := by decide +kernel
theorem dX2_mayStand_49 : decode cX2_mayStand 49 = .ok (.aload_n 1, 1) := by decide +kernel
theorem dX2_mayStand_50 : decode cX2_mayStand 50 = .ok (.getfield 66, 3) := by decide +kernel
theorem dX2_mayStand_53 : decode cX2_mayStand 53 = .ok (.iconst 1, 1) := by decide +kernel
theorem dX2_mayStand_54 : decode cX2_mayStand 54 = .ok (.isub, 1) := by decide +kernel
theorem dX2_mayStand_55 : decode cX2_mayStand 55 = .ok (.invokevirtual 63, 3) := by decide +kernel
theorem dX2_mayStand_58 : decode cX2_mayStand 58 = .ok (.ireturn, 1) := by decide +kernel
theorem dX2_mayStand_59 : decode cX2_mayStand 59 = .ok (.iload_n 2, 1) := by decide +kernel
theorem dX2_mayStand_60 : decode cX2_mayStand 60 = .ok (.tableswitch 79 98 101 #[65, 73, 79, 32], 32) := by decide +kernel
theorem dX2_mayStand_92 : decode cX2_mayStand 92 = .ok (.aload_n 0, 1) := by decide +kernel
theorem dX2_mayStand_93 : decode cX2_mayStand 93 = .ok (.iconst 0, 1) := by decide +kernel
theorem dX2_mayStand_94 : decode cX2_mayStand 94 = .ok (.aload_n 1, 1) := by decide +kernel
theorem dX2_mayStand_95 : decode cX2_mayStand 95 = .ok (.getfield 66, 3) := by decide +kernel
theorem dX2_mayStand_98 : decode cX2_mayStand 98 = .ok (.iconst 1, 1) := by decide +kernel
theorem dX2_mayStand_99 : decode cX2_mayStand 99 = .ok (.isub, 1) := by decide +kernel
theorem dX2_mayStand_100 : decode cX2_mayStand 100 = .ok (.invokevirtual 63, 3) := by decide +kernel
theorem dX2_mayStand_103 : decode cX2_mayStand 103 = .ok (.ifCond .eq 20, 3) := by decide +kernel
theorem dX2_mayStand_106 : decode cX2_mayStand 106 = .ok (.aload_n 0, 1) := by decide +kernel
theorem dX2_mayStand_107 : decode cX2_mayStand 107 = .ok (.getfield 56, 3) := by decide +kernel
theorem dX2_mayStand_110 : decode cX2_mayStand 110 = .ok (.aload_n 0, 1) := by decide +kernel
theorem dX2_mayStand_111 : decode cX2_mayStand 111 = .ok (.getfield 15, 3) := by decide +kernel
theorem dX2_mayStand_114 : decode cX2_mayStand 114 = .ok (.iconst 0, 1) := by decide +kernel
theorem dX2_mayStand_115 : decode cX2_mayStand 115 = .ok (.iaload, 1) := by decide +kernel
theorem dX2_mayStand_116 : decode cX2_mayStand 116 = .ok (.if_icmp .eq 7, 3) := by decide +kernel
theorem dX2_mayStand_119 : decode cX2_mayStand 119 = .ok (.iconst 1, 1) := by decide +kernel
theorem dX2_mayStand_120 : decode cX2_mayStand 120 = .ok (.goto 4, 3) := by decide +kernel
theorem dX2_mayStand_123 : decode cX2_mayStand 123 = .ok (.iconst 0, 1) := by decide +kernel
theorem dX2_mayStand_124 : decode cX2_mayStand 124 = .ok (.ireturn, 1) := by decide +kernel
theorem dX2_mayStand_125 : decode cX2_mayStand 125 = .ok (.aload_n 0, 1) := by decide +kernel
theorem dX2_mayStand_126 : decode cX2_mayStand 126 = .ok (.iconst 0, 1) := by decide +kernel
theorem dX2_mayStand_127 : decode cX2_mayStand 127 = .ok (.bipush 6, 2) := by decide +kernel
theorem dX2_mayStand_129 : decode cX2_mayStand 129 = .ok (.invokevirtual 63, 3) := by decide +kernel
theorem dX2_mayStand_132 : decode cX2_mayStand 132 = .ok (.ireturn, 1) := by decide +kernel
theorem dX2_mayStand_133 : decode cX2_mayStand 133 = .ok (.aload_n 0, 1) := by decide +kernel
theorem dX2_mayStand_134 : decode cX2_mayStand 134 = .ok (.iload_n 3, 1) := by decide +kernel
theorem dX2_mayStand_135 : decode cX2_mayStand 135 = .ok (.invokevirtual 69, 3) := by decide +kernel
theorem dX2_mayStand_138 : decode cX2_mayStand 138 = .ok (.ireturn, 1) := by decide +kernel
theorem dX2_mayStand_139 : decode cX2_mayStand 139 = .ok (.iload_n 3, 1) := by decide +kernel
theorem dX2_mayStand_140 : decode cX2_mayStand 140 = .ok (.iconst 1, 1) := by decide +kernel
theorem dX2_mayStand_141 : decode cX2_mayStand 141 = .ok (.if_icmp .ne 13, 3) := by decide +kernel
theorem dX2_mayStand_144 : decode cX2_mayStand 144 = .ok (.aload_n 0, 1) := by decide +kernel
theorem dX2_mayStand_145 : decode cX2_mayStand 145 = .ok (.iconst 0, 1) := by decide +kernel
theorem dX2_mayStand_146 : decode cX2_mayStand 146 = .ok (.bipush 7, 2) := by decide +kernel
theorem dX2_mayStand_148 : decode cX2_mayStand 148 = .ok (.invokevirtual 63, 3) := by decide +kernel
theorem dX2_mayStand_151 : decode cX2_mayStand 151 = .ok (.goto 10, 3) := by decide +kernel
theorem dX2_mayStand_154 : decode cX2_mayStand 154 = .ok (.aload_n 0, 1) := by decide +kernel
theorem dX2_mayStand_155 : decode cX2_mayStand 155 = .ok (.iconst 1, 1) := by decide +kernel
theorem dX2_mayStand_156 : decode cX2_mayStand 156 = .ok (.bipush 9, 2) := by decide +kernel
theorem dX2_mayStand_158 : decode cX2_mayStand 158 = .ok (.invokevirtual 63, 3) := by decide +kernel
theorem dX2_mayStand_161 : decode cX2_mayStand 161 = .ok (.ireturn, 1) := by decide +kernel
theorem dX2_mayStandForCitizen_0 : decode cX2_mayStandForCitizen 0 = .ok (.iload_n 1, 1) := by decide +kernel
theorem dX2_mayStandForCitizen_1 : decode cX2_mayStandForCitizen 1 = .ok (.lookupswitch 44 #[(1, 27), (2, 35)], 27) := by decide +kernel
theorem dX2_mayStandForCitizen_28 : decode cX2_mayStandForCitizen 28 = .ok (.aload_n 0, 1) := by decide +kernel
theorem dX2_mayStandForCitizen_29 : decode cX2_mayStandForCitizen 29 = .ok (.iconst 0, 1) := by decide +kernel
theorem dX2_mayStandForCitizen_30 : decode cX2_mayStandForCitizen 30 = .ok (.bipush 20, 2) := by decide +kernel
theorem dX2_mayStandForCitizen_32 : decode cX2_mayStandForCitizen 32 = .ok (.invokevirtual 63, 3) := by decide +kernel
theorem dX2_mayStandForCitizen_35 : decode cX2_mayStandForCitizen 35 = .ok (.ireturn, 1) := by decide +kernel
theorem dX2_mayStandForCitizen_36 : decode cX2_mayStandForCitizen 36 = .ok (.aload_n 0, 1) := by decide +kernel
theorem dX2_mayStandForCitizen_37 : decode cX2_mayStandForCitizen 37 = .ok (.iconst 0, 1) := by decide +kernel
theorem dX2_mayStandForCitizen_38 : decode cX2_mayStandForCitizen 38 = .ok (.sipush 255, 3) := by decide +kernel
theorem dX2_mayStandForCitizen_41 : decode cX2_mayStandForCitizen 41 = .ok (.invokevirtual 63, 3) := by decide +kernel
theorem dX2_mayStandForCitizen_44 : decode cX2_mayStandForCitizen 44 = .ok (.ireturn, 1) := by decide +kernel
theorem dX2_mayStandForCitizen_45 : decode cX2_mayStandForCitizen 45 = .ok (.aload_n 0, 1) := by decide +kernel
theorem dX2_mayStandForCitizen_46 : decode cX2_mayStandForCitizen 46 = .ok (.iconst 1, 1) := by decide +kernel
theorem dX2_mayStandForCitizen_47 : decode cX2_mayStandForCitizen 47 = .ok (.bipush 9, 2) := by decide +kernel
theorem dX2_mayStandForCitizen_49 : decode cX2_mayStandForCitizen 49 = .ok (.invokevirtual 63, 3) := by decide +kernel
theorem dX2_mayStandForCitizen_52 : decode cX2_mayStandForCitizen 52 = .ok (.ireturn, 1) := by decide +kernel
theorem dX2_isWithin_0 : decode cX2_isWithin 0 = .ok (.aload_n 0, 1) := by decide +kernel
theorem dX2_isWithin_1 : decode cX2_isWithin 1 = .ok (.getfield 56, 3) := by decide +kernel
theorem dX2_isWithin_4 : decode cX2_isWithin 4 = .ok (.iload_n 1, 1) := by decide +kernel
theorem dX2_isWithin_5 : decode cX2_isWithin 5 = .ok (.if_icmp .lt 15, 3) := by decide +kernel
theorem dX2_isWithin_8 : decode cX2_isWithin 8 = .ok (.aload_n 0, 1) := by decide +kernel
theorem dX2_isWithin_9 : decode cX2_isWithin 9 = .ok (.getfield 56, 3) := by decide +kernel
theorem dX2_isWithin_12 : decode cX2_isWithin 12 = .ok (.iload_n 2, 1) := by decide +kernel
theorem dX2_isWithin_13 : decode cX2_isWithin 13 = .ok (.if_icmp .gt 7, 3) := by decide +kernel
theorem dX2_isWithin_16 : decode cX2_isWithin 16 = .ok (.iconst 1, 1) := by decide +kernel
theorem dX2_isWithin_17 : decode cX2_isWithin 17 = .ok (.goto 4, 3) := by decide +kernel
theorem dX2_isWithin_20 : decode cX2_isWithin 20 = .ok (.iconst 0, 1) := by decide +kernel
theorem dX2_isWithin_21 : decode cX2_isWithin 21 = .ok (.ireturn, 1) := by decide +kernel
theorem dX2_nextToken_0 : decode cX2_nextToken 0 = .ok (.aload_n 0, 1) := by decide +kernel
theorem dX2_nextToken_1 : decode cX2_nextToken 1 = .ok (.getfield 24, 3) := by decide +kernel
theorem dX2_nextToken_4 : decode cX2_nextToken 4 = .ok (.aload_n 0, 1) := by decide +kernel
theorem dX2_nextToken_5 : decode cX2_nextToken 5 = .ok (.getfield 73, 3) := by decide +kernel
theorem dX2_nextToken_8 : decode cX2_nextToken 8 = .ok (.if_icmp .ge 30, 3) := by decide +kernel
theorem dX2_nextToken_11 : decode cX2_nextToken 11 = .ok (.aload_n 0, 1) := by decide +kernel
theorem dX2_nextToken_12 : decode cX2_nextToken 12 = .ok (.getfield 9, 3) := by decide +kernel
theorem dX2_nextToken_15 : decode cX2_nextToken 15 = .ok (.aload_n 0, 1) := by decide +kernel
theorem dX2_nextToken_16 : decode cX2_nextToken 16 = .ok (.getfield 24, 3) := by decide +kernel
theorem dX2_nextToken_19 : decode cX2_nextToken 19 = .ok (.caload, 1) := by decide +kernel
theorem dX2_nextToken_20 : decode cX2_nextToken 20 = .ok (.bipush 32, 2) := by decide +kernel
theorem dX2_nextToken_22 : decode cX2_nextToken 22 = .ok (.if_icmp .ne 16, 3) := by decide +kernel
theorem dX2_nextToken_25 : decode cX2_nextToken 25 = .ok (.aload_n 0, 1) := by decide +kernel
theorem dX2_nextToken_26 : decode cX2_nextToken 26 = .ok (.dup, 1) := by decide +kernel
theorem dX2_nextToken_27 : decode cX2_nextToken 27 = .ok (.getfield 24, 3) := by decide +kernel
theorem dX2_nextToken_30 : decode cX2_nextToken 30 = .ok (.iconst 1, 1) := by decide +kernel
theorem dX2_nextToken_31 : decode cX2_nextToken 31 = .ok (.iadd, 1) := by decide +kernel
theorem dX2_nextToken_32 : decode cX2_nextToken 32 = .ok (.putfield 24, 3) := by decide +kernel
theorem dX2_nextToken_35 : decode cX2_nextToken 35 = .ok (.goto (-35), 3) := by decide +kernel
theorem dX2_nextToken_38 : decode cX2_nextToken 38 = .ok (.aload_n 0, 1) := by decide +kernel
theorem dX2_nextToken_39 : decode cX2_nextToken 39 = .ok (.aload_n 0, 1) := by decide +kernel
theorem dX2_nextToken_40 : decode cX2_nextToken 40 = .ok (.getfield 24, 3) := by decide +kernel
theorem dX2_nextToken_43 : decode cX2_nextToken 43 = .ok (.putfield 41, 3) := by decide +kernel
theorem dX2_nextToken_46 : decode cX2_nextToken 46 = .ok (.aload_n 0, 1) := by decide +kernel
theorem dX2_nextToken_47 : decode cX2_nextToken 47 = .ok (.getfield 24, 3) := by decide +kernel
theorem dX2_nextToken_50 : decode cX2_nextToken 50 = .ok (.aload_n 0, 1) := by decide +kernel
theorem dX2_nextToken_51 : decode cX2_nextToken 51 = .ok (.getfield 73, 3) := by decide +kernel
theorem dX2_nextToken_54 : decode cX2_nextToken 54 = .ok (.if_icmp .lt 11, 3) := by decide +kernel
theorem dX2_nextToken_57 : decode cX2_nextToken 57 = .ok (.aload_n 0, 1) := by decide +kernel
theorem dX2_nextToken_58 : decode cX2_nextToken 58 = .ok (.sipush 258, 3) := by decide +kernel
theorem dX2_nextToken_61 : decode cX2_nextToken 61 = .ok (.putfield 31, 3) := by decide +kernel
theorem dX2_nextToken_64 : decode cX2_nextToken 64 = .ok (.return_, 1) := by decide +kernel
theorem dX2_nextToken_65 : decode cX2_nextToken 65 = .ok (.aload_n 0, 1) := by decide +kernel
theorem dX2_nextToken_66 : decode cX2_nextToken 66 = .ok (.getfield 9, 3) := by decide +kernel
theorem dX2_nextToken_69 : decode cX2_nextToken 69 = .ok (.aload_n 0, 1) := by decide +kernel
theorem dX2_nextToken_70 : decode cX2_nextToken 70 = .ok (.getfield 24, 3) := by decide +kernel
theorem dX2_nextToken_73 : decode cX2_nextToken 73 = .ok (.caload, 1) := by decide +kernel
theorem dX2_nextToken_74 : decode cX2_nextToken 74 = .ok (.istore_n 1, 1) := by decide +kernel
theorem dX2_nextToken_75 : decode cX2_nextToken 75 = .ok (.iload_n 1, 1) := by decide +kernel
theorem dX2_nextToken_76 : decode cX2_nextToken 76 = .ok (.invokestatic 76, 3) := by decide +kernel
theorem dX2_nextToken_79 : decode cX2_nextToken 79 = .ok (.ifCond .eq 8, 3) := by decide +kernel
theorem dX2_nextToken_82 : decode cX2_nextToken 82 = .ok (.aload_n 0, 1) := by decide +kernel
theorem dX2_nextToken_83 : decode cX2_nextToken 83 = .ok (.invokevirtual 80, 3) := by decide +kernel
theorem dX2_nextToken_86 : decode cX2_nextToken 86 = .ok (.return_, 1) := by decide +kernel
theorem dX2_nextToken_87 : decode cX2_nextToken 87 = .ok (.aload_n 0, 1) := by decide +kernel
theorem dX2_nextToken_88 : decode cX2_nextToken 88 = .ok (.dup, 1) := by decide +kernel
theorem dX2_nextToken_89 : decode cX2_nextToken 89 = .ok (.getfield 24, 3) := by decide +kernel
theorem dX2_nextToken_92 : decode cX2_nextToken 92 = .ok (.iconst 1, 1) := by decide +kernel
theorem dX2_nextToken_93 : decode cX2_nextToken 93 = .ok (.iadd, 1) := by decide +kernel
theorem dX2_nextToken_94 : decode cX2_nextToken 94 = .ok (.putfield 24, 3) := by decide +kernel
theorem dX2_nextToken_97 : decode cX2_nextToken 97 = .ok (.aload_n 0, 1) := by decide +kernel
theorem dX2_nextToken_98 : decode cX2_nextToken 98 = .ok (.iload_n 1, 1) := by decide +kernel
theorem dX2_nextToken_99 : decode cX2_nextToken 99 = .ok (.putfield 31, 3) := by decide +kernel
theorem dX2_nextToken_102 : decode cX2_nextToken 102 = .ok (.return_, 1) := by decide +kernel
theorem dX2_readNumber_0 : decode cX2_readNumber 0 = .ok (.aload_n 0, 1) := by decide +kernel
theorem dX2_readNumber_1 : decode cX2_readNumber 1 = .ok (.iconst 0, 1) := by decide +kernel
theorem dX2_readNumber_2 : decode cX2_readNumber 2 = .ok (.putfield 56, 3) := by decide +kernel
theorem dX2_readNumber_5 : decode cX2_readNumber 5 = .ok (.aload_n 0, 1) := by decide +kernel
theorem dX2_readNumber_6 : decode cX2_readNumber 6 = .ok (.getfield 24, 3) := by decide +kernel
theorem dX2_readNumber_9 : decode cX2_readNumber 9 = .ok (.aload_n 0, 1) := by decide +kernel
theorem dX2_readNumber_10 : decode cX2_readNumber 10 = .ok (.getfield 73, 3) := by decide +kernel
theorem dX2_readNumber_13 : decode cX2_readNumber 13 = .ok (.if_icmp .ge 61, 3) := by decide +kernel
theorem dX2_readNumber_16 : decode cX2_readNumber 16 = .ok (.aload_n 0, 1) := by decide +kernel
theorem dX2_readNumber_17 : decode cX2_readNumber 17 = .ok (.getfield 9, 3) := by decide +kernel
theorem dX2_readNumber_20 : decode cX2_readNumber 20 = .ok (.aload_n 0, 1) := by decide +kernel
theorem dX2_readNumber_21 : decode cX2_readNumber 21 = .ok (.getfield 24, 3) := by decide +kernel
theorem dX2_readNumber_24 : decode cX2_readNumber 24 = .ok (.caload, 1) := by decide +kernel
theorem dX2_readNumber_25 : decode cX2_readNumber 25 = .ok (.invokestatic 76, 3) := by decide +kernel
theorem dX2_readNumber_28 : decode cX2_readNumber 28 = .ok (.ifCond .eq 46, 3) := by decide +kernel
theorem dX2_readNumber_31 : decode cX2_readNumber 31 = .ok (.aload_n 0, 1) := by decide +kernel
theorem dX2_readNumber_32 : decode cX2_readNumber 32 = .ok (.aload_n 0, 1) := by decide +kernel
theorem dX2_readNumber_33 : decode cX2_readNumber 33 = .ok (.getfield 56, 3) := by decide +kernel
theorem dX2_readNumber_36 : decode cX2_readNumber 36 = .ok (.bipush 10, 2) := by decide +kernel
theorem dX2_readNumber_38 : decode cX2_readNumber 38 = .ok (.imul, 1) := by decide +kernel
theorem dX2_readNumber_39 : decode cX2_readNumber 39 = .ok (.aload_n 0, 1) := by decide +kernel
theorem dX2_readNumber_40 : decode cX2_readNumber 40 = .ok (.getfield 9, 3) := by decide +kernel
theorem dX2_readNumber_43 : decode cX2_readNumber 43 = .ok (.aload_n 0, 1) := by decide +kernel
theorem dX2_readNumber_44 : decode cX2_readNumber 44 = .ok (.getfield 24, 3) := by decide +kernel
theorem dX2_readNumber_47 : decode cX2_readNumber 47 = .ok (.caload, 1) := by decide +kernel
theorem dX2_readNumber_48 : decode cX2_readNumber 48 = .ok (.iadd, 1) := by decide +kernel
theorem dX2_readNumber_49 : decode cX2_readNumber 49 = .ok (.bipush 48, 2) := by decide +kernel
theorem dX2_readNumber_51 : decode cX2_readNumber 51 = .ok (.isub, 1) := by decide +kernel
theorem dX2_readNumber_52 : decode cX2_readNumber 52 = .ok (.sipush 256, 3) := by decide +kernel
theorem dX2_readNumber_55 : decode cX2_readNumber 55 = .ok (.invokestatic 83, 3) := by decide +kernel
theorem dX2_readNumber_58 : decode cX2_readNumber 58 = .ok (.putfield 56, 3) := by decide +kernel
theorem dX2_readNumber_61 : decode cX2_readNumber 61 = .ok (.aload_n 0, 1) := by decide +kernel
theorem dX2_readNumber_62 : decode cX2_readNumber 62 = .ok (.dup, 1) := by decide +kernel
theorem dX2_readNumber_63 : decode cX2_readNumber 63 = .ok (.getfield 24, 3) := by decide +kernel
theorem dX2_readNumber_66 : decode cX2_readNumber 66 = .ok (.iconst 1, 1) := by decide +kernel
theorem dX2_readNumber_67 : decode cX2_readNumber 67 = .ok (.iadd, 1) := by decide +kernel
theorem dX2_readNumber_68 : decode cX2_readNumber 68 = .ok (.putfield 24, 3) := by decide +kernel
theorem dX2_readNumber_71 : decode cX2_readNumber 71 = .ok (.goto (-66), 3) := by decide +kernel
theorem dX2_readNumber_74 : decode cX2_readNumber 74 = .ok (.aload_n 0, 1) := by decide +kernel
theorem dX2_readNumber_75 : decode cX2_readNumber 75 = .ok (.getfield 9, 3) := by decide +kernel
theorem dX2_readNumber_78 : decode cX2_readNumber 78 = .ok (.aload_n 0, 1) := by decide +kernel
theorem dX2_readNumber_79 : decode cX2_readNumber 79 = .ok (.getfield 41, 3) := by decide +kernel
theorem dX2_readNumber_82 : decode cX2_readNumber 82 = .ok (.caload, 1) := by decide +kernel
theorem dX2_readNumber_83 : decode cX2_readNumber 83 = .ok (.bipush 48, 2) := by decide +kernel
theorem dX2_readNumber_85 : decode cX2_readNumber 85 = .ok (.if_icmp .ne 20, 3) := by decide +kernel
theorem dX2_readNumber_88 : decode cX2_readNumber 88 = .ok (.aload_n 0, 1) := by decide +kernel
theorem dX2_readNumber_89 : decode cX2_readNumber 89 = .ok (.getfield 24, 3) := by decide +kernel
theorem dX2_readNumber_92 : decode cX2_readNumber 92 = .ok (.aload_n 0, 1) := by decide +kernel
theorem dX2_readNumber_93 : decode cX2_readNumber 93 = .ok (.getfield 41, 3) := by decide +kernel
theorem dX2_readNumber_96 : decode cX2_readNumber 96 = .ok (.isub, 1) := by decide +kernel
theorem dX2_readNumber_97 : decode cX2_readNumber 97 = .ok (.iconst 1, 1) := by decide +kernel
theorem dX2_readNumber_98 : decode cX2_readNumber 98 = .ok (.if_icmp .le 7, 3) := by decide +kernel
theorem dX2_readNumber_101 : decode cX2_readNumber 101 = .ok (.iconst 1, 1) := by decide +kernel
theorem dX2_readNumber_102 : decode cX2_readNumber 102 = .ok (.goto 4, 3) := by decide +kernel
theorem dX2_readNumber_105 : decode cX2_readNumber 105 = .ok (.iconst 0, 1) := by decide +kernel
theorem dX2_readNumber_106 : decode cX2_readNumber 106 = .ok (.istore_n 1, 1) := by decide +kernel
theorem dX2_readNumber_107 : decode cX2_readNumber 107 = .ok (.aload_n 0, 1) := by decide +kernel
theorem dX2_readNumber_108 : decode cX2_readNumber 108 = .ok (.iload_n 1, 1) := by decide +kernel
theorem dX2_readNumber_109 : decode cX2_readNumber 109 = .ok (.ifCond .ne 13, 3) := by decide +kernel
theorem dX2_readNumber_112 : decode cX2_readNumber 112 = .ok (.aload_n 0, 1) := by decide +kernel
theorem dX2_readNumber_113 : decode cX2_readNumber 113 = .ok (.getfield 56, 3) := by decide +kernel
theorem dX2_readNumber_116 : decode cX2_readNumber 116 = .ok (.sipush 255, 3) := by decide +kernel
theorem dX2_readNumber_119 : decode cX2_readNumber 119 = .ok (.if_icmp .le 9, 3) := by decide +kernel
theorem dX2_readNumber_122 : decode cX2_readNumber 122 = .ok (.sipush 257, 3) := by decide +kernel
theorem dX2_readNumber_125 : decode cX2_readNumber 125 = .ok (.goto 6, 3) := by decide +kernel
theorem dX2_readNumber_128 : decode cX2_readNumber 128 = .ok (.sipush 256, 3) := by decide +kernel
theorem dX2_readNumber_131 : decode cX2_readNumber 131 = .ok (.putfield 31, 3) := by decide +kernel
theorem dX2_readNumber_134 : decode cX2_readNumber 134 = .ok (.return_, 1) := by decide +kernel
theorem dX2_isDigit_0 : decode cX2_isDigit 0 = .ok (.iload_n 0, 1) := by decide +kernel
theorem dX2_isDigit_1 : decode cX2_isDigit 1 = .ok (.bipush 48, 2) := by decide +kernel
theorem dX2_isDigit_3 : decode cX2_isDigit 3 = .ok (.if_icmp .lt 13, 3) := by decide +kernel
theorem dX2_isDigit_6 : decode cX2_isDigit 6 = .ok (.iload_n 0, 1) := by decide +kernel
theorem dX2_isDigit_7 : decode cX2_isDigit 7 = .ok (.bipush 57, 2) := by decide +kernel
theorem dX2_isDigit_9 : decode cX2_isDigit 9 = .ok (.if_icmp .gt 7, 3) := by decide +kernel
theorem dX2_isDigit_12 : decode cX2_isDigit 12 = .ok (.iconst 1, 1) := by decide +kernel
theorem dX2_isDigit_13 : decode cX2_isDigit 13 = .ok (.goto 4, 3) := by decide +kernel
theorem dX2_isDigit_16 : decode cX2_isDigit 16 = .ok (.iconst 0, 1) := by decide +kernel
theorem dX2_isDigit_17 : decode cX2_isDigit 17 = .ok (.ireturn, 1) := by decide +kernel
end
section
theorem dX3_init_0 : decode cX3_init 0 = .ok (.aload_n 0, 1) := by decide +kernel
theorem dX3_init_1 : decode cX3_init 1 = .ok (.invokespecial 3, 3) := by decide +kernel
theorem dX3_init_4 : decode cX3_init 4 = .ok (.aload_n 0, 1) := by decide +kernel
theorem dX3_init_5 : decode cX3_init 5 = .ok (.new 9, 3) := by decide +kernel
theorem dX3_init_8 : decode cX3_init 8 = .ok (.dup, 1) := by decide +kernel
theorem dX3_init_9 : decode cX3_init 9 = .ok (.invokespecial 11, 3) := by decide +kernel
theorem dX3_init_12 : decode cX3_init 12 = .ok (.putfield 12, 3) := by decide +kernel
theorem dX3_init_15 : decode cX3_init 15 = .ok (.aload_n 0, 1) := by decide +kernel
theorem dX3_init_16 : decode cX3_init 16 = .ok (.new 16, 3) := by decide +kernel
theorem dX3_init_19 : decode cX3_init 19 = .ok (.dup, 1) := by decide +kernel
theorem dX3_init_20 : decode cX3_init 20 = .ok (.invokespecial 18, 3) := by decide +kernel
theorem dX3_init_23 : decode cX3_init 23 = .ok (.putfield 19, 3) := by decide +kernel
theorem dX3_init_26 : decode cX3_init 26 = .ok (.aload_n 0, 1) := by decide +kernel
theorem dX3_init_27 : decode cX3_init 27 = .ok (.new 16, 3) := by decide +kernel
theorem dX3_init_30 : decode cX3_init 30 = .ok (.dup, 1) := by decide +kernel
theorem dX3_init_31 : decode cX3_init 31 = .ok (.invokespecial 18, 3) := by decide +kernel
theorem dX3_init_34 : decode cX3_init 34 = .ok (.putfield 23, 3) := by decide +kernel
theorem dX3_init_37 : decode cX3_init 37 = .ok (.aload_n 0, 1) := by decide +kernel
theorem dX3_init_38 : decode cX3_init 38 = .ok (.new 26, 3) := by decide +kernel
theorem dX3_init_41 : decode cX3_init 41 = .ok (.dup, 1) := by decide +kernel
theorem dX3_init_42 : decode cX3_init 42 = .ok (.invokespecial 28, 3) := by decide +kernel
theorem dX3_init_45 : decode cX3_init 45 = .ok (.putfield 29, 3) := by decide +kernel
theorem dX3_init_48 : decode cX3_init 48 = .ok (.aload_n 0, 1) := by decide +kernel
theorem dX3_init_49 : decode cX3_init 49 = .ok (.new 26, 3) := by decide +kernel
theorem dX3_init_52 : decode cX3_init 52 = .ok (.dup, 1) := by decide +kernel
theorem dX3_init_53 : decode cX3_init 53 = .ok (.invokespecial 28, 3) := by decide +kernel
theorem dX3_init_56 : decode cX3_init 56 = .ok (.putfield 33, 3) := by decide +kernel
theorem dX3_init_59 : decode cX3_init 59 = .ok (.aload_n 0, 1) := by decide +kernel
theorem dX3_init_60 : decode cX3_init 60 = .ok (.bipush 10, 2) := by decide +kernel
theorem dX3_init_62 : decode cX3_init 62 = .ok (.anewarray 26, 3) := by decide +kernel
theorem dX3_init_65 : decode cX3_init 65 = .ok (.putfield 36, 3) := by decide +kernel
theorem dX3_init_68 : decode cX3_init 68 = .ok (.aload_n 0, 1) := by decide +kernel
theorem dX3_init_69 : decode cX3_init 69 = .ok (.iconst 2, 1) := by decide +kernel
theorem dX3_init_70 : decode cX3_init 70 = .ok (.anewarray 26, 3) := by decide +kernel
theorem dX3_init_73 : decode cX3_init 73 = .ok (.putfield 40, 3) := by decide +kernel
theorem dX3_init_76 : decode cX3_init 76 = .ok (.aload_n 0, 1) := by decide +kernel
theorem dX3_init_77 : decode cX3_init 77 = .ok (.iconst 2, 1) := by decide +kernel
theorem dX3_init_78 : decode cX3_init 78 = .ok (.newarray .boolean, 2) := by decide +kernel
theorem dX3_init_80 : decode cX3_init 80 = .ok (.putfield 43, 3) := by decide +kernel
theorem dX3_init_83 : decode cX3_init 83 = .ok (.aload_n 0, 1) := by decide +kernel
theorem dX3_init_84 : decode cX3_init 84 = .ok (.bipush 6, 2) := by decide +kernel
theorem dX3_init_86 : decode cX3_init 86 = .ok (.newarray .int, 2) := by decide +kernel
theorem dX3_init_88 : decode cX3_init 88 = .ok (.putfield 47, 3) := by decide +kernel
theorem dX3_init_91 : decode cX3_init 91 = .ok (.aload_n 0, 1) := by decide +kernel
theorem dX3_init_92 : decode cX3_init 92 = .ok (.bipush 6, 2) := by decide +kernel
theorem dX3_init_94 : decode cX3_init 94 = .ok (.newarray .int, 2) := by decide +kernel
theorem dX3_init_96 : decode cX3_init 96 = .ok (.putfield 51, 3) := by decide +kernel
theorem dX3_init_99 : decode cX3_init 99 = .ok (.aload_n 0, 1) := by decide +kernel
theorem dX3_init_100 : decode cX3_init 100 = .ok (.iconst 3, 1) := by decide +kernel
theorem dX3_init_101 : decode cX3_init 101 = .ok (.newarray .int, 2) := by decide +kernel
theorem dX3_init_103 : decode cX3_init 103 = .ok (.putfield 54, 3) := by decide +kernel
theorem dX3_init_106 : decode cX3_init 106 = .ok (.aload_n 0, 1) := by decide +kernel
theorem dX3_init_107 : decode cX3_init 107 = .ok (.iconst 4, 1) := by decide +kernel
theorem dX3_init_108 : decode cX3_init 108 = .ok (.bipush 6, 2) := by decide +kernel
theorem dX3_init_110 : decode cX3_init 110 = .ok (.multianewarray 57 2, 4) := by decide +kernel
theorem dX3_init_114 : decode cX3_init 114 = .ok (.putfield 59, 3) := by decide +kernel
theorem dX3_init_117 : decode cX3_init 117 = .ok (.aload_n 0, 1) := by decide +kernel
theorem dX3_init_118 : decode cX3_init 118 = .ok (.iconst 4, 1) := by decide +kernel
theorem dX3_init_119 : decode cX3_init 119 = .ok (.newarray .int, 2) := by decide +kernel
theorem dX3_init_121 : decode cX3_init 121 = .ok (.putfield 62, 3) := by decide +kernel
theorem dX3_init_124 : decode cX3_init 124 = .ok (.iconst 0, 1) := by decide +kernel
theorem dX3_init_125 : decode cX3_init 125 = .ok (.istore_n 1, 1) := by decide +kernel
theorem dX3_init_126 : decode cX3_init 126 = .ok (.iload_n 1, 1) := by decide +kernel
theorem dX3_init_127 : decode cX3_init 127 = .ok (.bipush 10, 2) := by decide +kernel
theorem dX3_init_129 : decode cX3_init 129 = .ok (.if_icmp .ge 22, 3) := by decide +kernel
theorem dX3_init_132 : decode cX3_init 132 = .ok (.aload_n 0, 1) := by decide +kernel
theorem dX3_init_133 : decode cX3_init 133 = .ok (.getfield 36, 3) := by decide +kernel
theorem dX3_init_136 : decode cX3_init 136 = .ok (.iload_n 1, 1) := by decide +kernel
theorem dX3_init_137 : decode cX3_init 137 = .ok (.new 26, 3) := by decide +kernel
theorem dX3_init_140 : decode cX3_init 140 = .ok (.dup, 1) := by decide +kernel
theorem dX3_init_141 : decode cX3_init 141 = .ok (.invokespecial 28, 3) := by decide +kernel
theorem dX3_init_144 : decode cX3_init 144 = .ok (.aastore, 1) := by decide +kernel
theorem dX3_init_145 : decode cX3_init 145 = .ok (.iinc 1 1, 3) := by decide +kernel
theorem dX3_init_148 : decode cX3_init 148 = .ok (.goto (-22), 3) := by decide +kernel
theorem dX3_init_151 : decode cX3_init 151 = .ok (.iconst 0, 1) := by decide +kernel
theorem dX3_init_152 : decode cX3_init 152 = .ok (.istore_n 1, 1) := by decide +kernel
theorem dX3_init_153 : decode cX3_init 153 = .ok (.iload_n 1, 1) := by decide +kernel
theorem dX3_init_154 : decode cX3_init 154 = .ok (.iconst 2, 1) := by decide +kernel
theorem dX3_init_155 : decode cX3_init 155 = .ok (.if_icmp .ge 22, 3) := by decide +kernel
theorem dX3_init_158 : decode cX3_init 158 = .ok (.aload_n 0, 1) := by decide +kernel
theorem dX3_init_159 : decode cX3_init 159 = .ok (.getfield 40, 3) := by decide +kernel
theorem dX3_init_162 : decode cX3_init 162 = .ok (.iload_n 1, 1) := by decide +kernel
theorem dX3_init_163 : decode cX3_init 163 = .ok (.new 26, 3) := by decide +kernel
theorem dX3_init_166 : decode cX3_init 166 = .ok (.dup, 1) := by decide +kernel
theorem dX3_init_167 : decode cX3_init 167 = .ok (.invokespecial 28, 3) := by decide +kernel
theorem dX3_init_170 : decode cX3_init 170 = .ok (.aastore, 1) := by decide +kernel
theorem dX3_init_171 : decode cX3_init 171 = .ok (.iinc 1 1, 3) := by decide +kernel
theorem dX3_init_174 : decode cX3_init 174 = .ok (.goto (-21), 3) := by decide +kernel
theorem dX3_init_177 : decode cX3_init 177 = .ok (.aload_n 0, 1) := by decide +kernel
theorem dX3_init_178 : decode cX3_init 178 = .ok (.getfield 12, 3) := by decide +kernel
theorem dX3_init_181 : decode cX3_init 181 = .ok (.aload_n 0, 1) := by decide +kernel
theorem dX3_init_182 : decode cX3_init 182 = .ok (.getfield 19, 3) := by decide +kernel
theorem dX3_init_185 : decode cX3_init 185 = .ok (.invokevirtual 65, 3) := by decide +kernel
theorem dX3_init_188 : decode cX3_init 188 = .ok (.pop, 1) := by decide +kernel
theorem dX3_init_189 : decode cX3_init 189 = .ok (.aload_n 0, 1) := by decide +kernel
theorem dX3_init_190 : decode cX3_init 190 = .ok (.getfield 29, 3) := by decide +kernel
theorem dX3_init_193 : decode cX3_init 193 = .ok (.aload_n 0, 1) := by decide +kernel
theorem dX3_init_194 : decode cX3_init 194 = .ok (.getfield 19, 3) := by decide +kernel
theorem dX3_init_197 : decode cX3_init 197 = .ok (.invokevirtual 69, 3) := by decide +kernel
theorem dX3_init_200 : decode cX3_init 200 = .ok (.return_, 1) := by decide +kernel
theorem dX3_type_0 : decode cX3_type 0 = .ok (.iload_n 1, 1) := by decide +kernel
theorem dX3_type_1 : decode cX3_type 1 = .ok (.ifCond .lt 10, 3) := by decide +kernel
theorem dX3_type_4 : decode cX3_type 4 = .ok (.iload_n 1, 1) := by decide +kernel
theorem dX3_type_5 : decode cX3_type 5 = .ok (.sipush 255, 3) := by decide +kernel
theorem dX3_type_8 : decode cX3_type 8 = .ok (.if_icmp .le 5, 3) := by decide +kernel
theorem dX3_type_11 : decode cX3_type 11 = .ok (.iconst (-1), 1) := by decide +kernel
theorem dX3_type_12 : decode cX3_type 12 = .ok (.ireturn, 1) := by decide +kernel
theorem dX3_type_13 : decode cX3_type 13 = .ok (.aload_n 0, 1) := by decide +kernel
theorem dX3_type_14 : decode cX3_type 14 = .ok (.getfield 12, 3) := by decide +kernel
theorem dX3_type_17 : decode cX3_type 17 = .ok (.getfield 73, 3) := by decide +kernel
theorem dX3_type_20 : decode cX3_type 20 = .ok (.sipush 200, 3) := by decide +kernel
theorem dX3_type_23 : decode cX3_type 23 = .ok (.if_icmp .lt 6, 3) := by decide +kernel
theorem dX3_type_26 : decode cX3_type 26 = .ok (.bipush (-3), 2) := by decide +kernel
theorem dX3_type_28 : decode cX3_type 28 = .ok (.ireturn, 1) := by decide +kernel
theorem dX3_type_29 : decode cX3_type 29 = .ok (.aload_n 0, 1) := by decide +kernel
theorem dX3_type_30 : decode cX3_type 30 = .ok (.getfield 12, 3) := by decide +kernel
theorem dX3_type_33 : decode cX3_type 33 = .ok (.getfield 77, 3) := by decide +kernel
theorem dX3_type_36 : decode cX3_type 36 = .ok (.aload_n 0, 1) := by decide +kernel
theorem dX3_type_37 : decode cX3_type 37 = .ok (.getfield 12, 3) := by decide +kernel
theorem dX3_type_40 : decode cX3_type 40 = .ok (.getfield 73, 3) := by decide +kernel
theorem dX3_type_43 : decode cX3_type 43 = .ok (.iload_n 1, 1) := by decide +kernel
theorem dX3_type_44 : decode cX3_type 44 = .ok (.i2c, 1) := by decide +kernel
theorem dX3_type_45 : decode cX3_type 45 = .ok (.castore, 1) := by decide +kernel
theorem dX3_type_46 : decode cX3_type 46 = .ok (.aload_n 0, 1) := by decide +kernel
theorem dX3_type_47 : decode cX3_type 47 = .ok (.getfield 12, 3) := by decide +kernel
theorem dX3_type_50 : decode cX3_type 50 = .ok (.dup, 1) := by decide +kernel
theorem dX3_type_51 : decode cX3_type 51 = .ok (.getfield 73, 3) := by decide +kernel
theorem dX3_type_54 : decode cX3_type 54 = .ok (.iconst 1, 1) := by decide +kernel
theorem dX3_type_55 : decode cX3_type 55 = .ok (.iadd, 1) := by decide +kernel
theorem dX3_type_56 : decode cX3_type 56 = .ok (.putfield 73, 3) := by decide +kernel
theorem dX3_type_59 : decode cX3_type 59 = .ok (.aload_n 0, 1) := by decide +kernel
theorem dX3_type_60 : decode cX3_type 60 = .ok (.getfield 12, 3) := by decide +kernel
theorem dX3_type_63 : decode cX3_type 63 = .ok (.getfield 73, 3) := by decide +kernel
theorem dX3_type_66 : decode cX3_type 66 = .ok (.ireturn, 1) := by decide +kernel
theorem dX3_clear_0 : decode cX3_clear 0 = .ok (.aload_n 0, 1) := by decide +kernel
theorem dX3_clear_1 : decode cX3_clear 1 = .ok (.getfield 12, 3) := by decide +kernel
theorem dX3_clear_4 : decode cX3_clear 4 = .ok (.getfield 73, 3) := by decide +kernel
theorem dX3_clear_7 : decode cX3_clear 7 = .ok (.istore_n 1, 1) := by decide +kernel
theorem dX3_clear_8 : decode cX3_clear 8 = .ok (.aload_n 0, 1) := by decide +kernel
theorem dX3_clear_9 : decode cX3_clear 9 = .ok (.getfield 12, 3) := by decide +kernel
theorem dX3_clear_12 : decode cX3_clear 12 = .ok (.iconst 0, 1) := by decide +kernel
theorem dX3_clear_13 : decode cX3_clear 13 = .ok (.putfield 73, 3) := by decide +kernel
theorem dX3_clear_16 : decode cX3_clear 16 = .ok (.iload_n 1, 1) := by decide +kernel
theorem dX3_clear_17 : decode cX3_clear 17 = .ok (.ireturn, 1) := by decide +kernel
theorem dX3_city_0 : decode cX3_city 0 = .ok (.aload_n 0, 1) := by decide +kernel
theorem dX3_city_1 : decode cX3_city 1 = .ok (.getfield 12, 3) := by decide +kernel
theorem dX3_city_4 : decode cX3_city 4 = .ok (.aload_n 0, 1) := by decide +kernel
theorem dX3_city_5 : decode cX3_city 5 = .ok (.getfield 23, 3) := by decide +kernel
theorem dX3_city_8 : decode cX3_city 8 = .ok (.invokevirtual 65, 3) := by decide +kernel
theorem dX3_city_11 : decode cX3_city 11 = .ok (.istore_n 1, 1) := by decide +kernel
theorem dX3_city_12 : decode cX3_city 12 = .ok (.iload_n 1, 1) := by decide +kernel
theorem dX3_city_13 : decode cX3_city 13 = .ok (.ifCond .ge 5, 3) := by decide +kernel
theorem dX3_city_16 : decode cX3_city 16 = .ok (.iload_n 1, 1) := by decide +kernel
theorem dX3_city_17 : decode cX3_city 17 = .ok (.ireturn, 1) := by decide +kernel
theorem dX3_city_18 : decode cX3_city 18 = .ok (.aload_n 0, 1) := by decide +kernel
theorem dX3_city_19 : decode cX3_city 19 = .ok (.getfield 19, 3) := by decide +kernel
theorem dX3_city_22 : decode cX3_city 22 = .ok (.astore_n 2, 1) := by decide +kernel
theorem dX3_city_23 : decode cX3_city 23 = .ok (.aload_n 0, 1) := by decide +kernel
theorem dX3_city_24 : decode cX3_city 24 = .ok (.aload_n 0, 1) := by decide +kernel
theorem dX3_city_25 : decode cX3_city 25 = .ok (.getfield 23, 3) := by decide +kernel
theorem dX3_city_28 : decode cX3_city 28 = .ok (.putfield 19, 3) := by decide +kernel
theorem dX3_city_31 : decode cX3_city 31 = .ok (.aload_n 0, 1) := by decide +kernel
theorem dX3_city_32 : decode cX3_city 32 = .ok (.aload_n 2, 1) := by decide +kernel
theorem dX3_city_33 : decode cX3_city 33 = .ok (.putfield 23, 3) := by decide +kernel
theorem dX3_city_36 : decode cX3_city 36 = .ok (.aload_n 0, 1) := by decide +kernel
theorem dX3_city_37 : decode cX3_city 37 = .ok (.getfield 12, 3) := by decide +kernel
theorem dX3_city_40 : decode cX3_city 40 = .ok (.iconst 0, 1) := by decide +kernel
theorem dX3_city_41 : decode cX3_city 41 = .ok (.putfield 73, 3) := by decide +kernel
theorem dX3_city_44 : decode cX3_city 44 = .ok (.aload_n 0, 1) := by decide +kernel
theorem dX3_city_45 : decode cX3_city 45 = .ok (.getfield 29, 3) := by decide +kernel
theorem dX3_city_48 : decode cX3_city 48 = .ok (.aload_n 0, 1) := by decide +kernel
theorem dX3_city_49 : decode cX3_city 49 = .ok (.getfield 19, 3) := by decide +kernel
theorem dX3_city_52 : decode cX3_city 52 = .ok (.invokevirtual 69, 3) := by decide +kernel
theorem dX3_city_55 : decode cX3_city 55 = .ok (.aload_n 0, 1) := by decide +kernel
theorem dX3_city_56 : decode cX3_city 56 = .ok (.iconst 0, 1) := by decide +kernel
theorem dX3_city_57 : decode cX3_city 57 = .ok (.putfield 81, 3) := by decide +kernel
theorem dX3_city_60 : decode cX3_city 60 = .ok (.aload_n 0, 1) := by decide +kernel
theorem dX3_city_61 : decode cX3_city 61 = .ok (.iconst 0, 1) := by decide +kernel
theorem dX3_city_62 : decode cX3_city 62 = .ok (.putfield 84, 3) := by decide +kernel
theorem dX3_city_65 : decode cX3_city 65 = .ok (.iconst 0, 1) := by decide +kernel
theorem dX3_city_66 : decode cX3_city 66 = .ok (.istore_n 3, 1) := by decide +kernel
theorem dX3_city_67 : decode cX3_city 67 = .ok (.iload_n 3, 1) := by decide +kernel
theorem dX3_city_68 : decode cX3_city 68 = .ok (.iconst 2, 1) := by decide +kernel
theorem dX3_city_69 : decode cX3_city 69 = .ok (.if_icmp .ge 16, 3) := by decide +kernel
theorem dX3_city_72 : decode cX3_city 72 = .ok (.aload_n 0, 1) := by decide +kernel
theorem dX3_city_73 : decode cX3_city 73 = .ok (.getfield 43, 3) := by decide +kernel
theorem dX3_city_76 : decode cX3_city 76 = .ok (.iload_n 3, 1) := by decide +kernel
theorem dX3_city_77 : decode cX3_city 77 = .ok (.iconst 0, 1) := by decide +kernel
theorem dX3_city_78 : decode cX3_city 78 = .ok (.bastore, 1) := by decide +kernel
theorem dX3_city_79 : decode cX3_city 79 = .ok (.iinc 3 1, 3) := by decide +kernel
theorem dX3_city_82 : decode cX3_city 82 = .ok (.goto (-15), 3) := by decide +kernel
theorem dX3_city_85 : decode cX3_city 85 = .ok (.iload_n 1, 1) := by decide +kernel
theorem dX3_city_86 : decode cX3_city 86 = .ok (.ireturn, 1) := by decide +kernel
theorem dX3_district_0 : decode cX3_district 0 = .ok (.aload_n 0, 1) := by decide +kernel
theorem dX3_district_1 : decode cX3_district 1 = .ok (.iload_n 1, 1) := by decide +kernel
theorem dX3_district_2 : decode cX3_district 2 = .ok (.invokevirtual 87, 3) := by decide +kernel
theorem dX3_district_5 : decode cX3_district 5 = .ok (.ifCond .ne 5, 3) := by decide +kernel
theorem dX3_district_8 : decode cX3_district 8 = .ok (.iconst (-1), 1) := by decide +kernel
theorem dX3_district_9 : decode cX3_district 9 = .ok (.ireturn, 1) := by decide +kernel
theorem dX3_district_10 : decode cX3_district 10 = .ok (.iload_n 2, 1) := by decide +kernel
theorem dX3_district_11 : decode cX3_district 11 = .ok (.lookupswitch 45 #[(0, 25), (1, 35)], 25) := by decide +kernel
theorem dX3_district_36 : decode cX3_district 36 = .ok (.aload_n 0, 1) := by decide +kernel
theorem dX3_district_37 : decode cX3_district 37 = .ok (.getfield 19, 3) := by decide +kernel
theorem dX3_district_40 : decode cX3_district 40 = .ok (.getfield 91, 3) := by decide +kernel
theorem dX3_district_43 : decode cX3_district 43 = .ok (.iload_n 1, 1) := by decide +kernel
theorem dX3_district_44 : decode cX3_district 44 = .ok (.iaload, 1) := by decide +kernel
theorem dX3_district_45 : decode cX3_district 45 = .ok (.ireturn, 1) := by decide +kernel
theorem dX3_district_46 : decode cX3_district 46 = .ok (.aload_n 0, 1) := by decide +kernel
theorem dX3_district_47 : decode cX3_district 47 = .ok (.getfield 19, 3) := by decide +kernel
theorem dX3_district_50 : decode cX3_district 50 = .ok (.getfield 94, 3) := by decide +kernel
theorem dX3_district_53 : decode cX3_district 53 = .ok (.iload_n 1, 1) := by decide +kernel
theorem dX3_district_54 : decode cX3_district 54 = .ok (.iaload, 1) := by decide +kernel
theorem dX3_district_55 : decode cX3_district 55 = .ok (.ireturn, 1) := by decide +kernel
theorem dX3_district_56 : decode cX3_district 56 = .ok (.iconst (-1), 1) := by decide +kernel
theorem dX3_district_57 : decode cX3_district 57 = .ok (.ireturn, 1) := by decide +kernel
theorem dX3_citizen_0 : decode cX3_citizen 0 = .ok (.aload_n 0, 1) := by decide +kernel
theorem dX3_citizen_1 : decode cX3_citizen 1 = .ok (.iload_n 1, 1) := by decide +kernel
theorem dX3_citizen_2 : decode cX3_citizen 2 = .ok (.invokevirtual 97, 3) := by decide +kernel
theorem dX3_citizen_5 : decode cX3_citizen 5 = .ok (.ifCond .ne 5, 3) := by decide +kernel
theorem dX3_citizen_8 : decode cX3_citizen 8 = .ok (.iconst (-1), 1) := by decide +kernel
theorem dX3_citizen_9 : decode cX3_citizen 9 = .ok (.ireturn, 1) := by decide +kernel
theorem dX3_citizen_10 : decode cX3_citizen 10 = .ok (.iload_n 2, 1) := by decide +kernel
theorem dX3_citizen_11 : decode cX3_citizen 11 = .ok (.tableswitch 97 0 5 #[37, 47, 57, 67, 77, 87], 37) := by decide +kernel
theorem dX3_citizen_48 : decode cX3_citizen 48 = .ok (.aload_n 0, 1) := by decide +kernel
theorem dX3_citizen_49 : decode cX3_citizen 49 = .ok (.getfield 19, 3) := by decide +kernel
theorem dX3_citizen_52 : decode cX3_citizen 52 = .ok (.getfield 100, 3) := by decide +kernel
theorem dX3_citizen_55 : decode cX3_citizen 55 = .ok (.iload_n 1, 1) := by decide +kernel
theorem dX3_citizen_56 : decode cX3_citizen 56 = .ok (.iaload, 1) := by decide +kernel
theorem dX3_citizen_57 : decode cX3_citizen 57 = .ok (.ireturn, 1) := by decide +kernel
theorem dX3_citizen_58 : decode cX3_citizen 58 = .ok (.aload_n 0, 1) := by decide +kernel
theorem dX3_citizen_59 : decode cX3_citizen 59 = .ok (.getfield 29, 3) := by decide +kernel
theorem dX3_citizen_62 : decode cX3_citizen 62 = .ok (.getfield 103, 3) := by decide +kernel
theorem dX3_citizen_65 : decode cX3_citizen 65 = .ok (.iload_n 1, 1) := by decide +kernel
theorem dX3_citizen_66 : decode cX3_citizen 66 = .ok (.iaload, 1) := by decide +kernel
theorem dX3_citizen_67 : decode cX3_citizen 67 = .ok (.ireturn, 1) := by decide +kernel
theorem dX3_citizen_68 : decode cX3_citizen 68 = .ok (.aload_n 0, 1) := by decide +kernel
theorem dX3_citizen_69 : decode cX3_citizen 69 = .ok (.getfield 19, 3) := by decide +kernel
theorem dX3_citizen_72 : decode cX3_citizen 72 = .ok (.getfield 106, 3) := by decide +kernel
theorem dX3_citizen_75 : decode cX3_citizen 75 = .ok (.iload_n 1, 1) := by decide +kernel
theorem dX3_citizen_76 : decode cX3_citizen 76 = .ok (.iaload, 1) := by decide +kernel
theorem dX3_citizen_77 : decode cX3_citizen 77 = .ok (.ireturn, 1) := by decide +kernel
theorem dX3_citizen_78 : decode cX3_citizen 78 = .ok (.aload_n 0, 1) := by decide +kernel
theorem dX3_citizen_79 : decode cX3_citizen 79 = .ok (.getfield 19, 3) := by decide +kernel
theorem dX3_citizen_82 : decode cX3_citizen 82 = .ok (.getfield 109, 3) := by decide +kernel
theorem dX3_citizen_85 : decode cX3_citizen 85 = .ok (.iload_n 1, 1) := by decide +kernel
theorem dX3_citizen_86 : decode cX3_citizen 86 = .ok (.iaload, 1) := by decide +kernel
theorem dX3_citizen_87 : decode cX3_citizen 87 = .ok (.ireturn, 1) := by decide +kernel
theorem dX3_citizen_88 : decode cX3_citizen 88 = .ok (.aload_n 0, 1) := by decide +kernel
theorem dX3_citizen_89 : decode cX3_citizen 89 = .ok (.getfield 29, 3) := by decide +kernel
theorem dX3_citizen_92 : decode cX3_citizen 92 = .ok (.getfield 112, 3) := by decide +kernel
theorem dX3_citizen_95 : decode cX3_citizen 95 = .ok (.iload_n 1, 1) := by decide +kernel
theorem dX3_citizen_96 : decode cX3_citizen 96 = .ok (.iaload, 1) := by decide +kernel
theorem dX3_citizen_97 : decode cX3_citizen 97 = .ok (.ireturn, 1) := by decide +kernel
theorem dX3_citizen_98 : decode cX3_citizen 98 = .ok (.aload_n 0, 1) := by decide +kernel
theorem dX3_citizen_99 : decode cX3_citizen 99 = .ok (.getfield 29, 3) := by decide +kernel
theorem dX3_citizen_102 : decode cX3_citizen 102 = .ok (.getfield 115, 3) := by decide +kernel
theorem dX3_citizen_105 : decode cX3_citizen 105 = .ok (.iload_n 1, 1) := by decide +kernel
theorem dX3_citizen_106 : decode cX3_citizen 106 = .ok (.iaload, 1) := by decide +kernel
theorem dX3_citizen_107 : decode cX3_citizen 107 = .ok (.ireturn, 1) := by decide +kernel
theorem dX3_citizen_108 : decode cX3_citizen 108 = .ok (.iconst (-1), 1) := by decide +kernel
theorem dX3_citizen_109 : decode cX3_citizen 109 = .ok (.ireturn, 1) := by decide +kernel
theorem dX3_noise_0 : decode cX3_noise 0 = .ok (.iload_n 1, 1) := by decide +kernel
theorem dX3_noise_1 : decode cX3_noise 1 = .ok (.ifCond .lt 14, 3) := by decide +kernel
theorem dX3_noise_4 : decode cX3_noise 4 = .ok (.iload_n 1, 1) := by decide +kernel
theorem dX3_noise_5 : decode cX3_noise 5 = .ok (.aload_n 0, 1) := by decide +kernel
theorem dX3_noise_6 : decode cX3_noise 6 = .ok (.getfield 19, 3) := by decide +kernel
theorem dX3_noise_9 : decode cX3_noise 9 = .ok (.getfield 118, 3) := by decide +kernel
theorem dX3_noise_12 : decode cX3_noise 12 = .ok (.if_icmp .lt 5, 3) := by decide +kernel
theorem dX3_noise_15 : decode cX3_noise 15 = .ok (.iconst (-1), 1) := by decide +kernel
theorem dX3_noise_16 : decode cX3_noise 16 = .ok (.ireturn, 1) := by decide +kernel
theorem dX3_noise_17 : decode cX3_noise 17 = .ok (.iload_n 2, 1) := by decide +kernel
theorem dX3_noise_18 : decode cX3_noise 18 = .ok (.tableswitch 56 0 2 #[26, 36, 46], 26) := by decide +kernel
theorem dX3_noise_44 : decode cX3_noise 44 = .ok (.aload_n 0, 1) := by decide +kernel
theorem dX3_noise_45 : decode cX3_noise 45 = .ok (.getfield 19, 3) := by decide +kernel
theorem dX3_noise_48 : decode cX3_noise 48 = .ok (.getfield 121, 3) := by decide +kernel
theorem dX3_noise_51 : decode cX3_noise 51 = .ok (.iload_n 1, 1) := by decide +kernel
theorem dX3_noise_52 : decode cX3_noise 52 = .ok (.iaload, 1) := by decide +kernel
theorem dX3_noise_53 : decode cX3_noise 53 = .ok (.ireturn, 1) := by decide +kernel
theorem dX3_noise_54 : decode cX3_noise 54 = .ok (.aload_n 0, 1) := by decide +kernel
theorem dX3_noise_55 : decode cX3_noise 55 = .ok (.getfield 19, 3) := by decide +kernel
theorem dX3_noise_58 : decode cX3_noise 58 = .ok (.getfield 124, 3) := by decide +kernel
theorem dX3_noise_61 : decode cX3_noise 61 = .ok (.iload_n 1, 1) := by decide +kernel
theorem dX3_noise_62 : decode cX3_noise 62 = .ok (.iaload, 1) := by decide +kernel
theorem dX3_noise_63 : decode cX3_noise 63 = .ok (.ireturn, 1) := by decide +kernel
theorem dX3_noise_64 : decode cX3_noise 64 = .ok (.aload_n 0, 1) := by decide +kernel
theorem dX3_noise_65 : decode cX3_noise 65 = .ok (.getfield 19, 3) := by decide +kernel
theorem dX3_noise_68 : decode cX3_noise 68 = .ok (.getfield 127, 3) := by decide +kernel
theorem dX3_noise_71 : decode cX3_noise 71 = .ok (.iload_n 1, 1) := by decide +kernel
theorem dX3_noise_72 : decode cX3_noise 72 = .ok (.iaload, 1) := by decide +kernel
theorem dX3_noise_73 : decode cX3_noise 73 = .ok (.ireturn, 1) := by decide +kernel
theorem dX3_noise_74 : decode cX3_noise 74 = .ok (.iconst (-1), 1) := by decide +kernel
theorem dX3_noise_75 : decode cX3_noise 75 = .ok (.ireturn, 1) := by decide +kernel
theorem dX3_now_0 : decode cX3_now 0 = .ok (.iload_n 1, 1) := by decide +kernel
theorem dX3_now_1 : decode cX3_now 1 = .ok (.tableswitch 78 0 5 #[39, 47, 55, 63, 68, 73], 39) := by decide +kernel
theorem dX3_now_40 : decode cX3_now 40 = .ok (.aload_n 0, 1) := by decide +kernel
theorem dX3_now_41 : decode cX3_now 41 = .ok (.getfield 29, 3) := by decide +kernel
theorem dX3_now_44 : decode cX3_now 44 = .ok (.getfield 130, 3) := by decide +kernel
theorem dX3_now_47 : decode cX3_now 47 = .ok (.ireturn, 1) := by decide +kernel
theorem dX3_now_48 : decode cX3_now 48 = .ok (.aload_n 0, 1) := by decide +kernel
theorem dX3_now_49 : decode cX3_now 49 = .ok (.getfield 29, 3) := by decide +kernel
theorem dX3_now_52 : decode cX3_now 52 = .ok (.getfield 133, 3) := by decide +kernel
theorem dX3_now_55 : decode cX3_now 55 = .ok (.ireturn, 1) := by decide +kernel
theorem dX3_now_56 : decode cX3_now 56 = .ok (.aload_n 0, 1) := by decide +kernel
theorem dX3_now_57 : decode cX3_now 57 = .ok (.getfield 29, 3) := by decide +kernel
theorem dX3_now_60 : decode cX3_now 60 = .ok (.getfield 136, 3) := by decide +kernel
theorem dX3_now_63 : decode cX3_now 63 = .ok (.ireturn, 1) := by decide +kernel
theorem dX3_now_64 : decode cX3_now 64 = .ok (.aload_n 0, 1) := by decide +kernel
theorem dX3_now_65 : decode cX3_now 65 = .ok (.invokevirtual 139, 3) := by decide +kernel
theorem dX3_now_68 : decode cX3_now 68 = .ok (.ireturn, 1) := by decide +kernel
theorem dX3_now_69 : decode cX3_now 69 = .ok (.aload_n 0, 1) := by decide +kernel
theorem dX3_now_70 : decode cX3_now 70 = .ok (.invokevirtual 143, 3) := by decide +kernel
theorem dX3_now_73 : decode cX3_now 73 = .ok (.ireturn, 1) := by decide +kernel
theorem dX3_now_74 : decode cX3_now 74 = .ok (.aload_n 0, 1) := by decide +kernel
theorem dX3_now_75 : decode cX3_now 75 = .ok (.getfield 81, 3) := by decide +kernel
theorem dX3_now_78 : decode cX3_now 78 = .ok (.ireturn, 1) := by decide +kernel
theorem dX3_now_79 : decode cX3_now 79 = .ok (.iconst (-1), 1) := by decide +kernel
theorem dX3_now_80 : decode cX3_now 80 = .ok (.ireturn, 1) := by decide +kernel
theorem dX3_sleptMost_0 : decode cX3_sleptMost 0 = .ok (.bipush (-9), 2) := by decide +kernel
theorem dX3_sleptMost_2 : decode cX3_sleptMost 2 = .ok (.istore_n 1, 1) := by decide +kernel
theorem dX3_sleptMost_3 : decode cX3_sleptMost 3 = .ok (.iconst 0, 1) := by decide +kernel
theorem dX3_sleptMost_4 : decode cX3_sleptMost 4 = .ok (.istore_n 2, 1) := by decide +kernel
theorem dX3_sleptMost_5 : decode cX3_sleptMost 5 = .ok (.iload_n 2, 1) := by decide +kernel
theorem dX3_sleptMost_6 : decode cX3_sleptMost 6 = .ok (.aload_n 0, 1) := by decide +kernel
theorem dX3_sleptMost_7 : decode cX3_sleptMost 7 = .ok (.getfield 19, 3) := by decide +kernel
theorem dX3_sleptMost_10 : decode cX3_sleptMost 10 = .ok (.getfield 146, 3) := by decide +kernel
theorem dX3_sleptMost_13 : decode cX3_sleptMost 13 = .ok (.if_icmp .ge 38, 3) := by decide +kernel
theorem dX3_sleptMost_16 : decode cX3_sleptMost 16 = .ok (.iload_n 1, 1) := by decide +kernel
theorem dX3_sleptMost_17 : decode cX3_sleptMost 17 = .ok (.bipush (-9), 2) := by decide +kernel
theorem dX3_sleptMost_19 : decode cX3_sleptMost 19 = .ok (.if_icmp .eq 24, 3) := by decide +kernel
theorem dX3_sleptMost_22 : decode cX3_sleptMost 22 = .ok (.aload_n 0, 1) := by decide +kernel
theorem dX3_sleptMost_23 : decode cX3_sleptMost 23 = .ok (.getfield 29, 3) := by decide +kernel
theorem dX3_sleptMost_26 : decode cX3_sleptMost 26 = .ok (.getfield 115, 3) := by decide +kernel
theorem dX3_sleptMost_29 : decode cX3_sleptMost 29 = .ok (.iload_n 2, 1) := by decide +kernel
theorem dX3_sleptMost_30 : decode cX3_sleptMost 30 = .ok (.iaload, 1) := by decide +kernel
theorem dX3_sleptMost_31 : decode cX3_sleptMost 31 = .ok (.aload_n 0, 1) := by decide +kernel
theorem dX3_sleptMost_32 : decode cX3_sleptMost 32 = .ok (.getfield 29, 3) := by decide +kernel
theorem dX3_sleptMost_35 : decode cX3_sleptMost 35 = .ok (.getfield 115, 3) := by decide +kernel
theorem dX3_sleptMost_38 : decode cX3_sleptMost 38 = .ok (.iload_n 1, 1) := by decide +kernel
theorem dX3_sleptMost_39 : decode cX3_sleptMost 39 = .ok (.iaload, 1) := by decide +kernel
theorem dX3_sleptMost_40 : decode cX3_sleptMost 40 = .ok (.if_icmp .le 5, 3) := by decide +kernel
theorem dX3_sleptMost_43 : decode cX3_sleptMost 43 = .ok (.iload_n 2, 1) := by decide +kernel
theorem dX3_sleptMost_44 : decode cX3_sleptMost 44 = .ok (.istore_n 1, 1) := by decide +kernel
theorem dX3_sleptMost_45 : decode cX3_sleptMost 45 = .ok (.iinc 2 1, 3) := by decide +kernel
theorem dX3_sleptMost_48 : decode cX3_sleptMost 48 = .ok (.goto (-43), 3) := by decide +kernel
theorem dX3_sleptMost_51 : decode cX3_sleptMost 51 = .ok (.iload_n 1, 1) := by decide +kernel
theorem dX3_sleptMost_52 : decode cX3_sleptMost 52 = .ok (.ireturn, 1) := by decide +kernel
theorem dX3_sleptLeast_0 : decode cX3_sleptLeast 0 = .ok (.bipush (-9), 2) := by decide +kernel
theorem dX3_sleptLeast_2 : decode cX3_sleptLeast 2 = .ok (.istore_n 1, 1) := by decide +kernel
theorem dX3_sleptLeast_3 : decode cX3_sleptLeast 3 = .ok (.iconst 0, 1) := by decide +kernel
theorem dX3_sleptLeast_4 : decode cX3_sleptLeast 4 = .ok (.istore_n 2, 1) := by decide +kernel
theorem dX3_sleptLeast_5 : decode cX3_sleptLeast 5 = .ok (.iload_n 2, 1) := by decide +kernel
theorem dX3_sleptLeast_6 : decode cX3_sleptLeast 6 = .ok (.aload_n 0, 1) := by decide +kernel
theorem dX3_sleptLeast_7 : decode cX3_sleptLeast 7 = .ok (.getfield 19, 3) := by decide +kernel
theorem dX3_sleptLeast_10 : decode cX3_sleptLeast 10 = .ok (.getfield 146, 3) := by decide +kernel
theorem dX3_sleptLeast_13 : decode cX3_sleptLeast 13 = .ok (.if_icmp .ge 38, 3) := by decide +kernel
theorem dX3_sleptLeast_16 : decode cX3_sleptLeast 16 = .ok (.iload_n 1, 1) := by decide +kernel
theorem dX3_sleptLeast_17 : decode cX3_sleptLeast 17 = .ok (.bipush (-9), 2) := by decide +kernel
theorem dX3_sleptLeast_19 : decode cX3_sleptLeast 19 = .ok (.if_icmp .eq 24, 3) := by decide +kernel
theorem dX3_sleptLeast_22 : decode cX3_sleptLeast 22 = .ok (.aload_n 0, 1) := by decide +kernel
theorem dX3_sleptLeast_23 : decode cX3_sleptLeast 23 = .ok (.getfield 29, 3) := by decide +kernel
theorem dX3_sleptLeast_26 : decode cX3_sleptLeast 26 = .ok (.getfield 115, 3) := by decide +kernel
theorem dX3_sleptLeast_29 : decode cX3_sleptLeast 29 = .ok (.iload_n 2, 1) := by decide +kernel
theorem dX3_sleptLeast_30 : decode cX3_sleptLeast 30 = .ok (.iaload, 1) := by decide +kernel
theorem dX3_sleptLeast_31 : decode cX3_sleptLeast 31 = .ok (.aload_n 0, 1) := by decide +kernel
theorem dX3_sleptLeast_32 : decode cX3_sleptLeast 32 = .ok (.getfield 29, 3) := by decide +kernel
theorem dX3_sleptLeast_35 : decode cX3_sleptLeast 35 = .ok (.getfield 115, 3) := by decide +kernel
theorem dX3_sleptLeast_38 : decode cX3_sleptLeast 38 = .ok (.iload_n 1, 1) := by decide +kernel
theorem dX3_sleptLeast_39 : decode cX3_sleptLeast 39 = .ok (.iaload, 1) := by decide +kernel
theorem dX3_sleptLeast_40 : decode cX3_sleptLeast 40 = .ok (.if_icmp .ge 5, 3) := by decide +kernel
theorem dX3_sleptLeast_43 : decode cX3_sleptLeast 43 = .ok (.iload_n 2, 1) := by decide +kernel
theorem dX3_sleptLeast_44 : decode cX3_sleptLeast 44 = .ok (.istore_n 1, 1) := by decide +kernel
theorem dX3_sleptLeast_45 : decode cX3_sleptLeast 45 = .ok (.iinc 2 1, 3) := by decide +kernel
theorem dX3_sleptLeast_48 : decode cX3_sleptLeast 48 = .ok (.goto (-43), 3) := by decide +kernel
theorem dX3_sleptLeast_51 : decode cX3_sleptLeast 51 = .ok (.iload_n 1, 1) := by decide +kernel
theorem dX3_sleptLeast_52 : decode cX3_sleptLeast 52 = .ok (.ireturn, 1) := by decide +kernel
theorem dX3_isDistrict_0 : decode cX3_isDistrict 0 = .ok (.iload_n 1, 1) := by decide +kernel
theorem dX3_isDistrict_1 : decode cX3_isDistrict 1 = .ok (.ifCond .lt 18, 3) := by decide +kernel
theorem dX3_isDistrict_4 : decode cX3_isDistrict 4 = .ok (.iload_n 1, 1) := by decide +kernel
theorem dX3_isDistrict_5 : decode cX3_isDistrict 5 = .ok (.aload_n 0, 1) := by decide +kernel
theorem dX3_isDistrict_6 : decode cX3_isDistrict 6 = .ok (.getfield 19, 3) := by decide +kernel
theorem dX3_isDistrict_9 : decode cX3_isDistrict 9 = .ok (.getfield 149, 3) := by decide +kernel
theorem dX3_isDistrict_12 : decode cX3_isDistrict 12 = .ok (.if_icmp .ge 7, 3) := by decide +kernel
theorem dX3_isDistrict_15 : decode cX3_isDistrict 15 = .ok (.iconst 1, 1) := by decide +kernel
theorem dX3_isDistrict_16 : decode cX3_isDistrict 16 = .ok (.goto 4, 3) := by decide +kernel
theorem dX3_isDistrict_19 : decode cX3_isDistrict 19 = .ok (.iconst 0, 1) := by decide +kernel
theorem dX3_isDistrict_20 : decode cX3_isDistrict 20 = .ok (.ireturn, 1) := by decide +kernel
theorem dX3_isCitizen_0 : decode cX3_isCitizen 0 = .ok (.iload_n 1, 1) := by decide +kernel
theorem dX3_isCitizen_1 : decode cX3_isCitizen 1 = .ok (.ifCond .lt 18, 3) := by decide +kernel
theorem dX3_isCitizen_4 : decode cX3_isCitizen 4 = .ok (.iload_n 1, 1) := by decide +kernel
theorem dX3_isCitizen_5 : decode cX3_isCitizen 5 = .ok (.aload_n 0, 1) := by decide +kernel
theorem dX3_isCitizen_6 : decode cX3_isCitizen 6 = .ok (.getfield 19, 3) := by decide +kernel
theorem dX3_isCitizen_9 : decode cX3_isCitizen 9 = .ok (.getfield 146, 3) := by decide +kernel
theorem dX3_isCitizen_12 : decode cX3_isCitizen 12 = .ok (.if_icmp .ge 7, 3) := by decide +kernel
theorem dX3_isCitizen_15 : decode cX3_isCitizen 15 = .ok (.iconst 1, 1) := by decide +kernel
theorem dX3_isCitizen_16 : decode cX3_isCitizen 16 = .ok (.goto 4, 3) := by decide +kernel
theorem dX3_isCitizen_19 : decode cX3_isCitizen 19 = .ok (.iconst 0, 1) := by decide +kernel
theorem dX3_isCitizen_20 : decode cX3_isCitizen 20 = .ok (.ireturn, 1) := by decide +kernel
theorem dX3_calls_0 : decode cX3_calls 0 = .ok (.aload_n 0, 1) := by decide +kernel
theorem dX3_calls_1 : decode cX3_calls 1 = .ok (.iload_n 1, 1) := by decide +kernel
theorem dX3_calls_2 : decode cX3_calls 2 = .ok (.invokevirtual 97, 3) := by decide +kernel
theorem dX3_calls_5 : decode cX3_calls 5 = .ok (.ifCond .eq 14, 3) := by decide +kernel
theorem dX3_calls_8 : decode cX3_calls 8 = .ok (.iload_n 2, 1) := by decide +kernel
theorem dX3_calls_9 : decode cX3_calls 9 = .ok (.ifCond .lt 10, 3) := by decide +kernel
theorem dX3_calls_12 : decode cX3_calls 12 = .ok (.iload_n 2, 1) := by decide +kernel
theorem dX3_calls_13 : decode cX3_calls 13 = .ok (.sipush 255, 3) := by decide +kernel
theorem dX3_calls_16 : decode cX3_calls 16 = .ok (.if_icmp .le 5, 3) := by decide +kernel
theorem dX3_calls_19 : decode cX3_calls 19 = .ok (.iconst (-1), 1) := by decide +kernel
theorem dX3_calls_20 : decode cX3_calls 20 = .ok (.ireturn, 1) := by decide +kernel
theorem dX3_calls_21 : decode cX3_calls 21 = .ok (.aload_n 0, 1) := by decide +kernel
theorem dX3_calls_22 : decode cX3_calls 22 = .ok (.invokevirtual 152, 3) := by decide +kernel
theorem dX3_calls_25 : decode cX3_calls 25 = .ok (.aload_n 0, 1) := by decide +kernel
theorem dX3_calls_26 : decode cX3_calls 26 = .ok (.getfield 29, 3) := by decide +kernel
theorem dX3_calls_29 : decode cX3_calls 29 = .ok (.getfield 112, 3) := by decide +kernel
theorem dX3_calls_32 : decode cX3_calls 32 = .ok (.iload_n 1, 1) := by decide +kernel
theorem dX3_calls_33 : decode cX3_calls 33 = .ok (.iaload, 1) := by decide +kernel
theorem dX3_calls_34 : decode cX3_calls 34 = .ok (.istore_n 3, 1) := by decide +kernel
theorem dX3_calls_35 : decode cX3_calls 35 = .ok (.aload_n 0, 1) := by decide +kernel
theorem dX3_calls_36 : decode cX3_calls 36 = .ok (.getfield 29, 3) := by decide +kernel
theorem dX3_calls_39 : decode cX3_calls 39 = .ok (.getfield 112, 3) := by decide +kernel
theorem dX3_calls_42 : decode cX3_calls 42 = .ok (.iload_n 1, 1) := by decide +kernel
theorem dX3_calls_43 : decode cX3_calls 43 = .ok (.iload_n 2, 1) := by decide +kernel
theorem dX3_calls_44 : decode cX3_calls 44 = .ok (.iastore, 1) := by decide +kernel
theorem dX3_calls_45 : decode cX3_calls 45 = .ok (.iload_n 3, 1) := by decide +kernel
theorem dX3_calls_46 : decode cX3_calls 46 = .ok (.ireturn, 1) := by decide +kernel
theorem dX3_hour_0 : decode cX3_hour 0 = .ok (.aload_n 0, 1) := by decide +kernel
theorem dX3_hour_1 : decode cX3_hour 1 = .ok (.getfield 29, 3) := by decide +kernel
theorem dX3_hour_4 : decode cX3_hour 4 = .ok (.getfield 130, 3) := by decide +kernel
theorem dX3_hour_7 : decode cX3_hour 7 = .ok (.bipush 99, 2) := by decide +kernel
theorem dX3_hour_9 : decode cX3_hour 9 = .ok (.if_icmp .lt 6, 3) := by decide +kernel
theorem dX3_hour_12 : decode cX3_hour 12 = .ok (.bipush (-2), 2) := by decide +kernel
theorem dX3_hour_14 : decode cX3_hour 14 = .ok (.ireturn, 1) := by decide +kernel
theorem dX3_hour_15 : decode cX3_hour 15 = .ok (.aload_n 0, 1) := by decide +kernel
theorem dX3_hour_16 : decode cX3_hour 16 = .ok (.invokevirtual 152, 3) := by decide +kernel
theorem dX3_hour_19 : decode cX3_hour 19 = .ok (.aload_n 0, 1) := by decide +kernel
theorem dX3_hour_20 : decode cX3_hour 20 = .ok (.aload_n 0, 1) := by decide +kernel
theorem dX3_hour_21 : decode cX3_hour 21 = .ok (.getfield 29, 3) := by decide +kernel
theorem dX3_hour_24 : decode cX3_hour 24 = .ok (.iconst (-1), 1) := by decide +kernel
theorem dX3_hour_25 : decode cX3_hour 25 = .ok (.invokevirtual 155, 3) := by decide +kernel
theorem dX3_hour_28 : decode cX3_hour 28 = .ok (.ireturn, 1) := by decide +kernel
theorem dX3_undo_0 : decode cX3_undo 0 = .ok (.aload_n 0, 1) := by decide +kernel
theorem dX3_undo_1 : decode cX3_undo 1 = .ok (.getfield 81, 3) := by decide +kernel
theorem dX3_undo_4 : decode cX3_undo 4 = .ok (.iconst 1, 1) := by decide +kernel
theorem dX3_undo_5 : decode cX3_undo 5 = .ok (.if_icmp .ge 6, 3) := by decide +kernel
theorem dX3_undo_8 : decode cX3_undo 8 = .ok (.bipush (-2), 2) := by decide +kernel
theorem dX3_undo_10 : decode cX3_undo 10 = .ok (.ireturn, 1) := by decide +kernel
theorem dX3_undo_11 : decode cX3_undo 11 = .ok (.aload_n 0, 1) := by decide +kernel
theorem dX3_undo_12 : decode cX3_undo 12 = .ok (.getfield 29, 3) := by decide +kernel
theorem dX3_undo_15 : decode cX3_undo 15 = .ok (.aload_n 0, 1) := by decide +kernel
theorem dX3_undo_16 : decode cX3_undo 16 = .ok (.getfield 36, 3) := by decide +kernel
theorem dX3_undo_19 : decode cX3_undo 19 = .ok (.aload_n 0, 1) := by decide +kernel
theorem dX3_undo_20 : decode cX3_undo 20 = .ok (.getfield 159, 3) := by decide +kernel
theorem dX3_undo_23 : decode cX3_undo 23 = .ok (.aaload, 1) := by decide +kernel
theorem dX3_undo_24 : decode cX3_undo 24 = .ok (.invokevirtual 162, 3) := by decide +kernel
theorem dX3_undo_27 : decode cX3_undo 27 = .ok (.aload_n 0, 1) := by decide +kernel
theorem dX3_undo_28 : decode cX3_undo 28 = .ok (.aload_n 0, 1) := by decide +kernel
theorem dX3_undo_29 : decode cX3_undo 29 = .ok (.getfield 159, 3) := by decide +kernel
theorem dX3_undo_32 : decode cX3_undo 32 = .ok (.bipush 10, 2) := by decide +kernel
theorem dX3_undo_34 : decode cX3_undo 34 = .ok (.iadd, 1) := by decide +kernel
theorem dX3_undo_35 : decode cX3_undo 35 = .ok (.iconst 1, 1) := by decide +kernel
theorem dX3_undo_36 : decode cX3_undo 36 = .ok (.isub, 1) := by decide +kernel
theorem dX3_undo_37 : decode cX3_undo 37 = .ok (.bipush 10, 2) := by decide +kernel
theorem dX3_undo_39 : decode cX3_undo 39 = .ok (.irem, 1) := by decide +kernel
theorem dX3_undo_40 : decode cX3_undo 40 = .ok (.putfield 159, 3) := by decide +kernel
theorem dX3_undo_43 : decode cX3_undo 43 = .ok (.aload_n 0, 1) := by decide +kernel
theorem dX3_undo_44 : decode cX3_undo 44 = .ok (.dup, 1) := by decide +kernel
theorem dX3_undo_45 : decode cX3_undo 45 = .ok (.getfield 81, 3) := by decide +kernel
theorem dX3_undo_48 : decode cX3_undo 48 = .ok (.iconst 1, 1) := by decide +kernel
theorem dX3_undo_49 : decode cX3_undo 49 = .ok (.isub, 1) := by decide +kernel
theorem dX3_undo_50 : decode cX3_undo 50 = .ok (.putfield 81, 3) := by decide +kernel
theorem dX3_undo_53 : decode cX3_undo 53 = .ok (.aload_n 0, 1) := by decide +kernel
theorem dX3_undo_54 : decode cX3_undo 54 = .ok (.getfield 81, 3) := by decide +kernel
theorem dX3_undo_57 : decode cX3_undo 57 = .ok (.ireturn, 1) := by decide +kernel
theorem dX3_remember_0 : decode cX3_remember 0 = .ok (.aload_n 0, 1) := by decide +kernel
theorem dX3_remember_1 : decode cX3_remember 1 = .ok (.aload_n 0, 1) := by decide +kernel
theorem dX3_remember_2 : decode cX3_remember 2 = .ok (.getfield 159, 3) := by decide +kernel
theorem dX3_remember_5 : decode cX3_remember 5 = .ok (.iconst 1, 1) := by decide +kernel
theorem dX3_remember_6 : decode cX3_remember 6 = .ok (.iadd, 1) := by decide +kernel
theorem dX3_remember_7 : decode cX3_remember 7 = .ok (.bipush 10, 2) := by decide +kernel
theorem dX3_remember_9 : decode cX3_remember 9 = .ok (.irem, 1) := by decide +kernel
theorem dX3_remember_10 : decode cX3_remember 10 = .ok (.putfield 159, 3) := by decide +kernel
theorem dX3_remember_13 : decode cX3_remember 13 = .ok (.aload_n 0, 1) := by decide +kernel
theorem dX3_remember_14 : decode cX3_remember 14 = .ok (.getfield 36, 3) := by decide +kernel
theorem dX3_remember_17 : decode cX3_remember 17 = .ok (.aload_n 0, 1) := by decide +kernel
theorem dX3_remember_18 : decode cX3_remember 18 = .ok (.getfield 159, 3) := by decide +kernel
theorem dX3_remember_21 : decode cX3_remember 21 = .ok (.aaload, 1) := by decide +kernel
theorem dX3_remember_22 : decode cX3_remember 22 = .ok (.aload_n 0, 1) := by decide +kernel
theorem dX3_remember_23 : decode cX3_remember 23 = .ok (.getfield 29, 3) := by decide +kernel
theorem dX3_remember_26 : decode cX3_remember 26 = .ok (.invokevirtual 162, 3) := by decide +kernel
theorem dX3_remember_29 : decode cX3_remember 29 = .ok (.aload_n 0, 1) := by decide +kernel
theorem dX3_remember_30 : decode cX3_remember 30 = .ok (.aload_n 0, 1) := by decide +kernel
theorem dX3_remember_31 : decode cX3_remember 31 = .ok (.getfield 81, 3) := by decide +kernel
theorem dX3_remember_34 : decode cX3_remember 34 = .ok (.iconst 1, 1) := by decide +kernel
theorem dX3_remember_35 : decode cX3_remember 35 = .ok (.iadd, 1) := by decide +kernel
theorem dX3_remember_36 : decode cX3_remember 36 = .ok (.bipush 10, 2) := by decide +kernel
theorem dX3_remember_38 : decode cX3_remember 38 = .ok (.invokestatic 166, 3) := by decide +kernel
theorem dX3_remember_41 : decode cX3_remember 41 = .ok (.putfield 81, 3) := by decide +kernel
theorem dX3_remember_44 : decode cX3_remember 44 = .ok (.return_, 1) := by decide +kernel
theorem dX3_goBy_0 : decode cX3_goBy 0 = .ok (.aload_n 0, 1) := by decide +kernel
theorem dX3_goBy_1 : decode cX3_goBy 1 = .ok (.getfield 19, 3) := by decide +kernel
theorem dX3_goBy_4 : decode cX3_goBy 4 = .ok (.aload_n 1, 1) := by decide +kernel
theorem dX3_goBy_5 : decode cX3_goBy 5 = .ok (.iload_n 2, 1) := by decide +kernel
theorem dX3_goBy_6 : decode cX3_goBy 6 = .ok (.invokevirtual 172, 3) := by decide +kernel
theorem dX3_goBy_9 : decode cX3_goBy 9 = .ok (.istore_n 3, 1) := by decide +kernel
theorem dX3_goBy_10 : decode cX3_goBy 10 = .ok (.aload_n 1, 1) := by decide +kernel
theorem dX3_goBy_11 : decode cX3_goBy 11 = .ok (.aload_n 0, 1) := by decide +kernel
theorem dX3_goBy_12 : decode cX3_goBy 12 = .ok (.getfield 19, 3) := by decide +kernel
theorem dX3_goBy_15 : decode cX3_goBy 15 = .ok (.iload_n 3, 1) := by decide +kernel
theorem dX3_goBy_16 : decode cX3_goBy 16 = .ok (.invokevirtual 175, 3) := by decide +kernel
theorem dX3_goBy_19 : decode cX3_goBy 19 = .ok (.iload_n 3, 1) := by decide +kernel
theorem dX3_goBy_20 : decode cX3_goBy 20 = .ok (.ireturn, 1) := by decide +kernel
theorem dX3_lapses_0 : decode cX3_lapses 0 = .ok (.iload_n 1, 1) := by decide +kernel
theorem dX3_lapses_1 : decode cX3_lapses 1 = .ok (.invokestatic 179, 3) := by decide +kernel
theorem dX3_lapses_4 : decode cX3_lapses 4 = .ok (.aload_n 0, 1) := by decide +kernel
theorem dX3_lapses_5 : decode cX3_lapses 5 = .ok (.getfield 19, 3) := by decide +kernel
theorem dX3_lapses_8 : decode cX3_lapses 8 = .ok (.getfield 185, 3) := by decide +kernel
theorem dX3_lapses_11 : decode cX3_lapses 11 = .ok (.if_icmp .ge 7, 3) := by decide +kernel
theorem dX3_lapses_14 : decode cX3_lapses 14 = .ok (.iconst 1, 1) := by decide +kernel
theorem dX3_lapses_15 : decode cX3_lapses 15 = .ok (.goto 4, 3) := by decide +kernel
theorem dX3_lapses_18 : decode cX3_lapses 18 = .ok (.iconst 0, 1) := by decide +kernel
theorem dX3_lapses_19 : decode cX3_lapses 19 = .ok (.ireturn, 1) := by decide +kernel
theorem dX3_asleepIn_0 : decode cX3_asleepIn 0 = .ok (.iload_n 1, 1) := by decide +kernel
theorem dX3_asleepIn_1 : decode cX3_asleepIn 1 = .ok (.ifCond .lt 9, 3) := by decide +kernel
theorem dX3_asleepIn_4 : decode cX3_asleepIn 4 = .ok (.iload_n 1, 1) := by decide +kernel
theorem dX3_asleepIn_5 : decode cX3_asleepIn 5 = .ok (.bipush 80, 2) := by decide +kernel
theorem dX3_asleepIn_7 : decode cX3_asleepIn 7 = .ok (.if_icmp .le 5, 3) := by decide +kernel
theorem dX3_asleepIn_10 : decode cX3_asleepIn 10 = .ok (.iconst (-1), 1) := by decide +kernel
theorem dX3_asleepIn_11 : decode cX3_asleepIn 11 = .ok (.ireturn, 1) := by decide +kernel
theorem dX3_asleepIn_12 : decode cX3_asleepIn 12 = .ok (.aload_n 0, 1) := by decide +kernel
theorem dX3_asleepIn_13 : decode cX3_asleepIn 13 = .ok (.getfield 33, 3) := by decide +kernel
theorem dX3_asleepIn_16 : decode cX3_asleepIn 16 = .ok (.aload_n 0, 1) := by decide +kernel
theorem dX3_asleepIn_17 : decode cX3_asleepIn 17 = .ok (.getfield 29, 3) := by decide +kernel
theorem dX3_asleepIn_20 : decode cX3_asleepIn 20 = .ok (.invokevirtual 162, 3) := by decide +kernel
theorem dX3_asleepIn_23 : decode cX3_asleepIn 23 = .ok (.iconst 0, 1) := by decide +kernel
theorem dX3_asleepIn_24 : decode cX3_asleepIn 24 = .ok (.istore_n 2, 1) := by decide +kernel
theorem dX3_asleepIn_25 : decode cX3_asleepIn 25 = .ok (.iconst 0, 1) := by decide +kernel
theorem dX3_asleepIn_26 : decode cX3_asleepIn 26 = .ok (.istore_n 3, 1) := by decide +kernel
theorem dX3_asleepIn_27 : decode cX3_asleepIn 27 = .ok (.iload_n 3, 1) := by decide +kernel
theorem dX3_asleepIn_28 : decode cX3_asleepIn 28 = .ok (.iload_n 1, 1) := by decide +kernel
theorem dX3_asleepIn_29 : decode cX3_asleepIn 29 = .ok (.if_icmp .gt 19, 3) := by decide +kernel
theorem dX3_asleepIn_32 : decode cX3_asleepIn 32 = .ok (.aload_n 0, 1) := by decide +kernel
theorem dX3_asleepIn_33 : decode cX3_asleepIn 33 = .ok (.aload_n 0, 1) := by decide +kernel
theorem dX3_asleepIn_34 : decode cX3_asleepIn 34 = .ok (.getfield 33, 3) := by decide +kernel
theorem dX3_asleepIn_37 : decode cX3_asleepIn 37 = .ok (.iconst (-1), 1) := by decide +kernel
theorem dX3_asleepIn_38 : decode cX3_asleepIn 38 = .ok (.invokevirtual 155, 3) := by decide +kernel
theorem dX3_asleepIn_41 : decode cX3_asleepIn 41 = .ok (.istore_n 2, 1) := by decide +kernel
theorem dX3_asleepIn_42 : decode cX3_asleepIn 42 = .ok (.iinc 3 1, 3) := by decide +kernel
theorem dX3_asleepIn_45 : decode cX3_asleepIn 45 = .ok (.goto (-18), 3) := by decide +kernel
theorem dX3_asleepIn_48 : decode cX3_asleepIn 48 = .ok (.iload_n 2, 1) := by decide +kernel
theorem dX3_asleepIn_49 : decode cX3_asleepIn 49 = .ok (.ireturn, 1) := by decide +kernel
theorem dX3_lapse_0 : decode cX3_lapse 0 = .ok (.aload_n 0, 1) := by decide +kernel
theorem dX3_lapse_1 : decode cX3_lapse 1 = .ok (.bipush 81, 2) := by decide +kernel
theorem dX3_lapse_3 : decode cX3_lapse 3 = .ok (.iconst (-1), 1) := by decide +kernel
theorem dX3_lapse_4 : decode cX3_lapse 4 = .ok (.invokevirtual 188, 3) := by decide +kernel
theorem dX3_lapse_7 : decode cX3_lapse 7 = .ok (.ireturn, 1) := by decide +kernel
theorem dX3_firstLapse_0 : decode cX3_firstLapse 0 = .ok (.aload_n 0, 1) := by decide +kernel
theorem dX3_firstLapse_1 : decode cX3_firstLapse 1 = .ok (.getfield 33, 3) := by decide +kernel
theorem dX3_firstLapse_4 : decode cX3_firstLapse 4 = .ok (.aload_n 0, 1) := by decide +kernel
theorem dX3_firstLapse_5 : decode cX3_firstLapse 5 = .ok (.getfield 29, 3) := by decide +kernel
theorem dX3_firstLapse_8 : decode cX3_firstLapse 8 = .ok (.invokevirtual 162, 3) := by decide +kernel
theorem dX3_firstLapse_11 : decode cX3_firstLapse 11 = .ok (.iconst 0, 1) := by decide +kernel
theorem dX3_firstLapse_12 : decode cX3_firstLapse 12 = .ok (.istore_n 3, 1) := by decide +kernel
theorem dX3_firstLapse_13 : decode cX3_firstLapse 13 = .ok (.iload_n 3, 1) := by decide +kernel
theorem dX3_firstLapse_14 : decode cX3_firstLapse 14 = .ok (.iload_n 1, 1) := by decide +kernel
theorem dX3_firstLapse_15 : decode cX3_firstLapse 15 = .ok (.if_icmp .ge 27, 3) := by decide +kernel
theorem dX3_firstLapse_18 : decode cX3_firstLapse 18 = .ok (.aload_n 0, 1) := by decide +kernel
theorem dX3_firstLapse_19 : decode cX3_firstLapse 19 = .ok (.aload_n 0, 1) := by decide +kernel
theorem dX3_firstLapse_20 : decode cX3_firstLapse 20 = .ok (.aload_n 0, 1) := by decide +kernel
theorem dX3_firstLapse_21 : decode cX3_firstLapse 21 = .ok (.getfield 33, 3) := by decide +kernel
theorem dX3_firstLapse_24 : decode cX3_firstLapse 24 = .ok (.iload_n 2, 1) := by decide +kernel
theorem dX3_firstLapse_25 : decode cX3_firstLapse 25 = .ok (.invokevirtual 155, 3) := by decide +kernel
theorem dX3_firstLapse_28 : decode cX3_firstLapse 28 = .ok (.invokevirtual 191, 3) := by decide +kernel
theorem dX3_firstLapse_31 : decode cX3_firstLapse 31 = .ok (.ifCond .eq 5, 3) := by decide +kernel
theorem dX3_firstLapse_34 : decode cX3_firstLapse 34 = .ok (.iload_n 3, 1) := by decide +kernel
theorem dX3_firstLapse_35 : decode cX3_firstLapse 35 = .ok (.ireturn, 1) := by decide +kernel
theorem dX3_firstLapse_36 : decode cX3_firstLapse 36 = .ok (.iinc 3 1, 3) := by decide +kernel
theorem dX3_firstLapse_39 : decode cX3_firstLapse 39 = .ok (.goto (-26), 3) := by decide +kernel
theorem dX3_firstLapse_42 : decode cX3_firstLapse 42 = .ok (.bipush (-9), 2) := by decide +kernel
theorem dX3_firstLapse_44 : decode cX3_firstLapse 44 = .ok (.ireturn, 1) := by decide +kernel
theorem dX3_callUp_0 : decode cX3_callUp 0 = .ok (.iload_n 1, 1) := by decide +kernel
theorem dX3_callUp_1 : decode cX3_callUp 1 = .ok (.iconst 1, 1) := by decide +kernel
theorem dX3_callUp_2 : decode cX3_callUp 2 = .ok (.if_icmp .lt 13, 3) := by decide +kernel
theorem dX3_callUp_5 : decode cX3_callUp 5 = .ok (.iload_n 1, 1) := by decide +kernel
theorem dX3_callUp_6 : decode cX3_callUp 6 = .ok (.iconst 3, 1) := by decide +kernel
theorem dX3_callUp_7 : decode cX3_callUp 7 = .ok (.if_icmp .gt 8, 3) := by decide +kernel
theorem dX3_callUp_10 : decode cX3_callUp 10 = .ok (.iload_n 2, 1) := by decide +kernel
theorem dX3_callUp_11 : decode cX3_callUp 11 = .ok (.iconst (-1), 1) := by decide +kernel
theorem dX3_callUp_12 : decode cX3_callUp 12 = .ok (.if_icmp .ge 5, 3) := by decide +kernel
theorem dX3_callUp_15 : decode cX3_callUp 15 = .ok (.iconst (-1), 1) := by decide +kernel
theorem dX3_callUp_16 : decode cX3_callUp 16 = .ok (.ireturn, 1) := by decide +kernel
theorem dX3_callUp_17 : decode cX3_callUp 17 = .ok (.iload_n 2, 1) := by decide +kernel
theorem dX3_callUp_18 : decode cX3_callUp 18 = .ok (.iload_n 1, 1) := by decide +kernel
theorem dX3_callUp_19 : decode cX3_callUp 19 = .ok (.if_icmp .lt 6, 3) := by decide +kernel
theorem dX3_callUp_22 : decode cX3_callUp 22 = .ok (.bipush (-5), 2) := by decide +kernel
theorem dX3_callUp_24 : decode cX3_callUp 24 = .ok (.ireturn, 1) := by decide +kernel
theorem dX3_callUp_25 : decode cX3_callUp 25 = .ok (.aload_n 0, 1) := by decide +kernel
theorem dX3_callUp_26 : decode cX3_callUp 26 = .ok (.getfield 29, 3) := by decide +kernel
theorem dX3_callUp_29 : decode cX3_callUp 29 = .ok (.getfield 103, 3) := by decide +kernel
theorem dX3_callUp_32 : decode cX3_callUp 32 = .ok (.iconst 0, 1) := by decide +kernel
theorem dX3_callUp_33 : decode cX3_callUp 33 = .ok (.aload_n 0, 1) := by decide +kernel
theorem dX3_callUp_34 : decode cX3_callUp 34 = .ok (.getfield 59, 3) := by decide +kernel
theorem dX3_callUp_37 : decode cX3_callUp 37 = .ok (.iconst 0, 1) := by decide +kernel
theorem dX3_callUp_38 : decode cX3_callUp 38 = .ok (.aaload, 1) := by decide +kernel
theorem dX3_callUp_39 : decode cX3_callUp 39 = .ok (.iconst 0, 1) := by decide +kernel
theorem dX3_callUp_40 : decode cX3_callUp 40 = .ok (.bipush 6, 2) := by decide +kernel
theorem dX3_callUp_42 : decode cX3_callUp 42 = .ok (.invokestatic 193, 3) := by decide +kernel
theorem dX3_callUp_45 : decode cX3_callUp 45 = .ok (.aload_n 0, 1) := by decide +kernel
theorem dX3_callUp_46 : decode cX3_callUp 46 = .ok (.iload_n 1, 1) := by decide +kernel
theorem dX3_callUp_47 : decode cX3_callUp 47 = .ok (.invokevirtual 199, 3) := by decide +kernel
theorem dX3_callUp_50 : decode cX3_callUp 50 = .ok (.ifCond .eq 12, 3) := by decide +kernel
theorem dX3_callUp_53 : decode cX3_callUp 53 = .ok (.aload_n 0, 1) := by decide +kernel
theorem dX3_callUp_54 : decode cX3_callUp 54 = .ok (.iconst 0, 1) := by decide +kernel
theorem dX3_callUp_55 : decode cX3_callUp 55 = .ok (.iload_n 1, 1) := by decide +kernel
theorem dX3_callUp_56 : decode cX3_callUp 56 = .ok (.invokevirtual 202, 3) := by decide +kernel
theorem dX3_callUp_59 : decode cX3_callUp 59 = .ok (.ifCond .ne 6, 3) := by decide +kernel
theorem dX3_callUp_62 : decode cX3_callUp 62 = .ok (.bipush (-9), 2) := by decide +kernel
theorem dX3_callUp_64 : decode cX3_callUp 64 = .ok (.ireturn, 1) := by decide +kernel
theorem dX3_callUp_65 : decode cX3_callUp 65 = .ok (.iload_n 2, 1) := by decide +kernel
theorem dX3_callUp_66 : decode cX3_callUp 66 = .ok (.iconst (-1), 1) := by decide +kernel
theorem dX3_callUp_67 : decode cX3_callUp 67 = .ok (.if_icmp .ne 15, 3) := by decide +kernel
theorem dX3_callUp_70 : decode cX3_callUp 70 = .ok (.iload_n 1, 1) := by decide +kernel
theorem dX3_callUp_71 : decode cX3_callUp 71 = .ok (.aload_n 0, 1) := by decide +kernel
theorem dX3_callUp_72 : decode cX3_callUp 72 = .ok (.getfield 19, 3) := by decide +kernel
theorem dX3_callUp_75 : decode cX3_callUp 75 = .ok (.getfield 185, 3) := by decide +kernel
theorem dX3_callUp_78 : decode cX3_callUp 78 = .ok (.imul, 1) := by decide +kernel
theorem dX3_callUp_79 : decode cX3_callUp 79 = .ok (.goto 9, 3) := by decide +kernel
theorem dX3_callUp_82 : decode cX3_callUp 82 = .ok (.aload_n 0, 1) := by decide +kernel
theorem dX3_callUp_83 : decode cX3_callUp 83 = .ok (.getfield 54, 3) := by decide +kernel
theorem dX3_callUp_86 : decode cX3_callUp 86 = .ok (.iload_n 2, 1) := by decide +kernel
theorem dX3_callUp_87 : decode cX3_callUp 87 = .ok (.iaload, 1) := by decide +kernel
theorem dX3_callUp_88 : decode cX3_callUp 88 = .ok (.ireturn, 1) := by decide +kernel
theorem dX3_enoughInEach_0 : decode cX3_enoughInEach 0 = .ok (.iconst 0, 1) := by decide +kernel
theorem dX3_enoughInEach_1 : decode cX3_enoughInEach 1 = .ok (.istore_n 2, 1) := by decide +kernel
theorem dX3_enoughInEach_2 : decode cX3_enoughInEach 2 = .ok (.iload_n 2, 1) := by decide +kernel
theorem dX3_enoughInEach_3 : decode cX3_enoughInEach 3 = .ok (.iload_n 1, 1) := by decide +kernel
theorem dX3_enoughInEach_4 : decode cX3_enoughInEach 4 = .ok (.if_icmp .ge 63, 3) := by decide +kernel
theorem dX3_enoughInEach_7 : decode cX3_enoughInEach 7 = .ok (.aload_n 0, 1) := by decide +kernel
theorem dX3_enoughInEach_8 : decode cX3_enoughInEach 8 = .ok (.getfield 19, 3) := by decide +kernel
theorem dX3_enoughInEach_11 : decode cX3_enoughInEach 11 = .ok (.getfield 206, 3) := by decide +kernel
theorem dX3_enoughInEach_14 : decode cX3_enoughInEach 14 = .ok (.aload_n 0, 1) := by decide +kernel
theorem dX3_enoughInEach_15 : decode cX3_enoughInEach 15 = .ok (.iload_n 2, 1) := by decide +kernel
theorem dX3_enoughInEach_16 : decode cX3_enoughInEach 16 = .ok (.invokevirtual 209, 3) := by decide +kernel
theorem dX3_enoughInEach_19 : decode cX3_enoughInEach 19 = .ok (.iaload, 1) := by decide +kernel
theorem dX3_enoughInEach_20 : decode cX3_enoughInEach 20 = .ok (.istore_n 3, 1) := by decide +kernel
theorem dX3_enoughInEach_21 : decode cX3_enoughInEach 21 = .ok (.iload_n 2, 1) := by decide +kernel
theorem dX3_enoughInEach_22 : decode cX3_enoughInEach 22 = .ok (.ifCond .ne 19, 3) := by decide +kernel
theorem dX3_enoughInEach_25 : decode cX3_enoughInEach 25 = .ok (.iload_n 3, 1) := by decide +kernel
theorem dX3_enoughInEach_26 : decode cX3_enoughInEach 26 = .ok (.aload_n 0, 1) := by decide +kernel
theorem dX3_enoughInEach_27 : decode cX3_enoughInEach 27 = .ok (.getfield 19, 3) := by decide +kernel
theorem dX3_enoughInEach_30 : decode cX3_enoughInEach 30 = .ok (.aload_n 0, 1) := by decide +kernel
theorem dX3_enoughInEach_31 : decode cX3_enoughInEach 31 = .ok (.getfield 59, 3) := by decide +kernel
theorem dX3_enoughInEach_34 : decode cX3_enoughInEach 34 = .ok (.iconst 0, 1) := by decide +kernel
theorem dX3_enoughInEach_35 : decode cX3_enoughInEach 35 = .ok (.aaload, 1) := by decide +kernel
theorem dX3_enoughInEach_36 : decode cX3_enoughInEach 36 = .ok (.invokevirtual 212, 3) := by decide +kernel
theorem dX3_enoughInEach_39 : decode cX3_enoughInEach 39 = .ok (.iand, 1) := by decide +kernel
theorem dX3_enoughInEach_40 : decode cX3_enoughInEach 40 = .ok (.istore_n 3, 1) := by decide +kernel
theorem dX3_enoughInEach_41 : decode cX3_enoughInEach 41 = .ok (.aload_n 0, 1) := by decide +kernel
theorem dX3_enoughInEach_42 : decode cX3_enoughInEach 42 = .ok (.getfield 19, 3) := by decide +kernel
theorem dX3_enoughInEach_45 : decode cX3_enoughInEach 45 = .ok (.iload_n 3, 1) := by decide +kernel
theorem dX3_enoughInEach_46 : decode cX3_enoughInEach 46 = .ok (.invokevirtual 216, 3) := by decide +kernel
theorem dX3_enoughInEach_49 : decode cX3_enoughInEach 49 = .ok (.aload_n 0, 1) := by decide +kernel
theorem dX3_enoughInEach_50 : decode cX3_enoughInEach 50 = .ok (.getfield 19, 3) := by decide +kernel
theorem dX3_enoughInEach_53 : decode cX3_enoughInEach 53 = .ok (.getfield 185, 3) := by decide +kernel
theorem dX3_enoughInEach_56 : decode cX3_enoughInEach 56 = .ok (.if_icmp .ge 5, 3) := by decide +kernel
theorem dX3_enoughInEach_59 : decode cX3_enoughInEach 59 = .ok (.iconst 0, 1) := by decide +kernel
theorem dX3_enoughInEach_60 : decode cX3_enoughInEach 60 = .ok (.ireturn, 1) := by decide +kernel
theorem dX3_enoughInEach_61 : decode cX3_enoughInEach 61 = .ok (.iinc 2 1, 3) := by decide +kernel
theorem dX3_enoughInEach_64 : decode cX3_enoughInEach 64 = .ok (.goto (-62), 3) := by decide +kernel
theorem dX3_enoughInEach_67 : decode cX3_enoughInEach 67 = .ok (.iconst 1, 1) := by decide +kernel
theorem dX3_enoughInEach_68 : decode cX3_enoughInEach 68 = .ok (.ireturn, 1) := by decide +kernel
theorem dX3_callUpFrom_0 : decode cX3_callUpFrom 0 = .ok (.iload_n 1, 1) := by decide +kernel
theorem dX3_callUpFrom_1 : decode cX3_callUpFrom 1 = .ok (.iload_n 2, 1) := by decide +kernel
theorem dX3_callUpFrom_2 : decode cX3_callUpFrom 2 = .ok (.if_icmp .ge 8, 3) := by decide +kernel
theorem dX3_callUpFrom_5 : decode cX3_callUpFrom 5 = .ok (.iload_n 1, 1) := by decide +kernel
theorem dX3_callUpFrom_6 : decode cX3_callUpFrom 6 = .ok (.iconst 3, 1) := by decide +kernel
theorem dX3_callUpFrom_7 : decode cX3_callUpFrom 7 = .ok (.if_icmp .lt 5, 3) := by decide +kernel
theorem dX3_callUpFrom_10 : decode cX3_callUpFrom 10 = .ok (.iconst 1, 1) := by decide +kernel
theorem dX3_callUpFrom_11 : decode cX3_callUpFrom 11 = .ok (.ireturn, 1) := by decide +kernel
theorem dX3_callUpFrom_12 : decode cX3_callUpFrom 12 = .ok (.aload_n 0, 1) := by decide +kernel
theorem dX3_callUpFrom_13 : decode cX3_callUpFrom 13 = .ok (.getfield 19, 3) := by decide +kernel
theorem dX3_callUpFrom_16 : decode cX3_callUpFrom 16 = .ok (.getfield 206, 3) := by decide +kernel
theorem dX3_callUpFrom_19 : decode cX3_callUpFrom 19 = .ok (.aload_n 0, 1) := by decide +kernel
theorem dX3_callUpFrom_20 : decode cX3_callUpFrom 20 = .ok (.iload_n 1, 1) := by decide +kernel
theorem dX3_callUpFrom_21 : decode cX3_callUpFrom 21 = .ok (.invokevirtual 209, 3) := by decide +kernel
theorem dX3_callUpFrom_24 : decode cX3_callUpFrom 24 = .ok (.iaload, 1) := by decide +kernel
theorem dX3_callUpFrom_25 : decode cX3_callUpFrom 25 = .ok (.aload_n 0, 1) := by decide +kernel
theorem dX3_callUpFrom_26 : decode cX3_callUpFrom 26 = .ok (.getfield 19, 3) := by decide +kernel
theorem dX3_callUpFrom_29 : decode cX3_callUpFrom 29 = .ok (.aload_n 0, 1) := by decide +kernel
theorem dX3_callUpFrom_30 : decode cX3_callUpFrom 30 = .ok (.getfield 59, 3) := by decide +kernel
theorem dX3_callUpFrom_33 : decode cX3_callUpFrom 33 = .ok (.iload_n 1, 1) := by decide +kernel
theorem dX3_callUpFrom_34 : decode cX3_callUpFrom 34 = .ok (.aaload, 1) := by decide +kernel
theorem dX3_callUpFrom_35 : decode cX3_callUpFrom 35 = .ok (.invokevirtual 212, 3) := by decide +kernel
theorem dX3_callUpFrom_38 : decode cX3_callUpFrom 38 = .ok (.iand, 1) := by decide +kernel
theorem dX3_callUpFrom_39 : decode cX3_callUpFrom 39 = .ok (.istore_n 3, 1) := by decide +kernel
theorem dX3_callUpFrom_40 : decode cX3_callUpFrom 40 = .ok (.iconst 0, 1) := by decide +kernel
theorem dX3_callUpFrom_41 : decode cX3_callUpFrom 41 = .ok (.istore 4, 2) := by decide +kernel
theorem dX3_callUpFrom_43 : decode cX3_callUpFrom 43 = .ok (.iload 4, 2) := by decide +kernel
theorem dX3_callUpFrom_45 : decode cX3_callUpFrom 45 = .ok (.bipush 64, 2) := by decide +kernel
theorem dX3_callUpFrom_47 : decode cX3_callUpFrom 47 = .ok (.if_icmp .ge 95, 3) := by decide +kernel
theorem dX3_callUpFrom_50 : decode cX3_callUpFrom 50 = .ok (.iload 4, 2) := by decide +kernel
theorem dX3_callUpFrom_52 : decode cX3_callUpFrom 52 = .ok (.iload_n 3, 1) := by decide +kernel
theorem dX3_callUpFrom_53 : decode cX3_callUpFrom 53 = .ok (.iconst (-1), 1) := by decide +kernel
theorem dX3_callUpFrom_54 : decode cX3_callUpFrom 54 = .ok (.ixor, 1) := by decide +kernel
theorem dX3_callUpFrom_55 : decode cX3_callUpFrom 55 = .ok (.iand, 1) := by decide +kernel
theorem dX3_callUpFrom_56 : decode cX3_callUpFrom 56 = .ok (.ifCond .ne 80, 3) := by decide +kernel
theorem dX3_callUpFrom_59 : decode cX3_callUpFrom 59 = .ok (.iload 4, 2) := by decide +kernel
theorem dX3_callUpFrom_61 : decode cX3_callUpFrom 61 = .ok (.invokestatic 179, 3) := by decide +kernel
theorem dX3_callUpFrom_64 : decode cX3_callUpFrom 64 = .ok (.aload_n 0, 1) := by decide +kernel
theorem dX3_callUpFrom_65 : decode cX3_callUpFrom 65 = .ok (.getfield 19, 3) := by decide +kernel
theorem dX3_callUpFrom_68 : decode cX3_callUpFrom 68 = .ok (.getfield 185, 3) := by decide +kernel
theorem dX3_callUpFrom_71 : decode cX3_callUpFrom 71 = .ok (.if_icmp .ne 65, 3) := by decide +kernel
theorem dX3_callUpFrom_74 : decode cX3_callUpFrom 74 = .ok (.aload_n 0, 1) := by decide +kernel
theorem dX3_callUpFrom_75 : decode cX3_callUpFrom 75 = .ok (.getfield 19, 3) := by decide +kernel
theorem dX3_callUpFrom_78 : decode cX3_callUpFrom 78 = .ok (.iload 4, 2) := by decide +kernel
theorem dX3_callUpFrom_80 : decode cX3_callUpFrom 80 = .ok (.invokevirtual 216, 3) := by decide +kernel
theorem dX3_callUpFrom_83 : decode cX3_callUpFrom 83 = .ok (.aload_n 0, 1) := by decide +kernel
theorem dX3_callUpFrom_84 : decode cX3_callUpFrom 84 = .ok (.getfield 19, 3) := by decide +kernel
theorem dX3_callUpFrom_87 : decode cX3_callUpFrom 87 = .ok (.getfield 185, 3) := by decide +kernel
theorem dX3_callUpFrom_90 : decode cX3_callUpFrom 90 = .ok (.if_icmp .eq 6, 3) := by decide +kernel
theorem dX3_callUpFrom_93 : decode cX3_callUpFrom 93 = .ok (.goto 43, 3) := by decide +kernel
theorem dX3_callUpFrom_96 : decode cX3_callUpFrom 96 = .ok (.aload_n 0, 1) := by decide +kernel
theorem dX3_callUpFrom_97 : decode cX3_callUpFrom 97 = .ok (.getfield 54, 3) := by decide +kernel
theorem dX3_callUpFrom_100 : decode cX3_callUpFrom 100 = .ok (.iload_n 1, 1) := by decide +kernel
theorem dX3_callUpFrom_101 : decode cX3_callUpFrom 101 = .ok (.iload 4, 2) := by decide +kernel
theorem dX3_callUpFrom_103 : decode cX3_callUpFrom 103 = .ok (.iastore, 1) := by decide +kernel
theorem dX3_callUpFrom_104 : decode cX3_callUpFrom 104 = .ok (.aload_n 0, 1) := by decide +kernel
theorem dX3_callUpFrom_105 : decode cX3_callUpFrom 105 = .ok (.getfield 59, 3) := by decide +kernel
theorem dX3_callUpFrom_108 : decode cX3_callUpFrom 108 = .ok (.iload_n 1, 1) := by decide +kernel
theorem dX3_callUpFrom_109 : decode cX3_callUpFrom 109 = .ok (.aaload, 1) := by decide +kernel
theorem dX3_callUpFrom_110 : decode cX3_callUpFrom 110 = .ok (.iload 4, 2) := by decide +kernel
theorem dX3_callUpFrom_112 : decode cX3_callUpFrom 112 = .ok (.aload_n 0, 1) := by decide +kernel
theorem dX3_callUpFrom_113 : decode cX3_callUpFrom 113 = .ok (.getfield 59, 3) := by decide +kernel
theorem dX3_callUpFrom_116 : decode cX3_callUpFrom 116 = .ok (.iload_n 1, 1) := by decide +kernel
theorem dX3_callUpFrom_117 : decode cX3_callUpFrom 117 = .ok (.iconst 1, 1) := by decide +kernel
theorem dX3_callUpFrom_118 : decode cX3_callUpFrom 118 = .ok (.iadd, 1) := by decide +kernel
theorem dX3_callUpFrom_119 : decode cX3_callUpFrom 119 = .ok (.aaload, 1) := by decide +kernel
theorem dX3_callUpFrom_120 : decode cX3_callUpFrom 120 = .ok (.invokestatic 219, 3) := by decide +kernel
theorem dX3_callUpFrom_123 : decode cX3_callUpFrom 123 = .ok (.aload_n 0, 1) := by decide +kernel
theorem dX3_callUpFrom_124 : decode cX3_callUpFrom 124 = .ok (.iload_n 1, 1) := by decide +kernel
theorem dX3_callUpFrom_125 : decode cX3_callUpFrom 125 = .ok (.iconst 1, 1) := by decide +kernel
theorem dX3_callUpFrom_126 : decode cX3_callUpFrom 126 = .ok (.iadd, 1) := by decide +kernel
theorem dX3_callUpFrom_127 : decode cX3_callUpFrom 127 = .ok (.iload_n 2, 1) := by decide +kernel
theorem dX3_callUpFrom_128 : decode cX3_callUpFrom 128 = .ok (.invokevirtual 202, 3) := by decide +kernel
theorem dX3_callUpFrom_131 : decode cX3_callUpFrom 131 = .ok (.ifCond .eq 5, 3) := by decide +kernel
theorem dX3_callUpFrom_134 : decode cX3_callUpFrom 134 = .ok (.iconst 1, 1) := by decide +kernel
theorem dX3_callUpFrom_135 : decode cX3_callUpFrom 135 = .ok (.ireturn, 1) := by decide +kernel
theorem dX3_callUpFrom_136 : decode cX3_callUpFrom 136 = .ok (.iinc 4 1, 3) := by decide +kernel
theorem dX3_callUpFrom_139 : decode cX3_callUpFrom 139 = .ok (.goto (-96), 3) := by decide +kernel
theorem dX3_callUpFrom_142 : decode cX3_callUpFrom 142 = .ok (.iconst 0, 1) := by decide +kernel
theorem dX3_callUpFrom_143 : decode cX3_callUpFrom 143 = .ok (.ireturn, 1) := by decide +kernel
theorem dX3_hourAhead_0 : decode cX3_hourAhead 0 = .ok (.aload_n 0, 1) := by decide +kernel
theorem dX3_hourAhead_1 : decode cX3_hourAhead 1 = .ok (.getfield 29, 3) := by decide +kernel
theorem dX3_hourAhead_4 : decode cX3_hourAhead 4 = .ok (.getfield 133, 3) := by decide +kernel
theorem dX3_hourAhead_7 : decode cX3_hourAhead 7 = .ok (.iload_n 1, 1) := by decide +kernel
theorem dX3_hourAhead_8 : decode cX3_hourAhead 8 = .ok (.iadd, 1) := by decide +kernel
theorem dX3_hourAhead_9 : decode cX3_hourAhead 9 = .ok (.bipush 8, 2) := by decide +kernel
theorem dX3_hourAhead_11 : decode cX3_hourAhead 11 = .ok (.irem, 1) := by decide +kernel
theorem dX3_hourAhead_12 : decode cX3_hourAhead 12 = .ok (.ireturn, 1) := by decide +kernel
theorem dX3_tire_0 : decode cX3_tire 0 = .ok (.iconst 0, 1) := by decide +kernel
theorem dX3_tire_1 : decode cX3_tire 1 = .ok (.istore_n 3, 1) := by decide +kernel
theorem dX3_tire_2 : decode cX3_tire 2 = .ok (.iload_n 3, 1) := by decide +kernel
theorem dX3_tire_3 : decode cX3_tire 3 = .ok (.bipush 6, 2) := by decide +kernel
theorem dX3_tire_5 : decode cX3_tire 5 = .ok (.if_icmp .ge 42, 3) := by decide +kernel
theorem dX3_tire_8 : decode cX3_tire 8 = .ok (.aload_n 2, 1) := by decide +kernel
theorem dX3_tire_9 : decode cX3_tire 9 = .ok (.iload_n 3, 1) := by decide +kernel
theorem dX3_tire_10 : decode cX3_tire 10 = .ok (.iload_n 1, 1) := by decide +kernel
theorem dX3_tire_11 : decode cX3_tire 11 = .ok (.iload_n 3, 1) := by decide +kernel
theorem dX3_tire_12 : decode cX3_tire 12 = .ok (.invokestatic 223, 3) := by decide +kernel
theorem dX3_tire_15 : decode cX3_tire 15 = .ok (.ifCond .eq 15, 3) := by decide +kernel
theorem dX3_tire_18 : decode cX3_tire 18 = .ok (.aload_n 0, 1) := by decide +kernel
theorem dX3_tire_19 : decode cX3_tire 19 = .ok (.iload_n 3, 1) := by decide +kernel
theorem dX3_tire_20 : decode cX3_tire 20 = .ok (.iaload, 1) := by decide +kernel
theorem dX3_tire_21 : decode cX3_tire 21 = .ok (.iconst 2, 1) := by decide +kernel
theorem dX3_tire_22 : decode cX3_tire 22 = .ok (.isub, 1) := by decide +kernel
theorem dX3_tire_23 : decode cX3_tire 23 = .ok (.iconst 0, 1) := by decide +kernel
theorem dX3_tire_24 : decode cX3_tire 24 = .ok (.invokestatic 226, 3) := by decide +kernel
theorem dX3_tire_27 : decode cX3_tire 27 = .ok (.goto 13, 3) := by decide +kernel
theorem dX3_tire_30 : decode cX3_tire 30 = .ok (.aload_n 0, 1) := by decide +kernel
theorem dX3_tire_31 : decode cX3_tire 31 = .ok (.iload_n 3, 1) := by decide +kernel
theorem dX3_tire_32 : decode cX3_tire 32 = .ok (.iaload, 1) := by decide +kernel
theorem dX3_tire_33 : decode cX3_tire 33 = .ok (.iconst 1, 1) := by decide +kernel
theorem dX3_tire_34 : decode cX3_tire 34 = .ok (.iadd, 1) := by decide +kernel
theorem dX3_tire_35 : decode cX3_tire 35 = .ok (.bipush 20, 2) := by decide +kernel
theorem dX3_tire_37 : decode cX3_tire 37 = .ok (.invokestatic 166, 3) := by decide +kernel
theorem dX3_tire_40 : decode cX3_tire 40 = .ok (.iastore, 1) := by decide +kernel
theorem dX3_tire_41 : decode cX3_tire 41 = .ok (.iinc 3 1, 3) := by decide +kernel
theorem dX3_tire_44 : decode cX3_tire 44 = .ok (.goto (-42), 3) := by decide +kernel
theorem dX3_tire_47 : decode cX3_tire 47 = .ok (.return_, 1) := by decide +kernel
theorem dX3_has_0 : decode cX3_has 0 = .ok (.iload_n 0, 1) := by decide +kernel
theorem dX3_has_1 : decode cX3_has 1 = .ok (.iload_n 1, 1) := by decide +kernel
theorem dX3_has_2 : decode cX3_has 2 = .ok (.ishr, 1) := by decide +kernel
theorem dX3_has_3 : decode cX3_has 3 = .ok (.iconst 1, 1) := by decide +kernel
theorem dX3_has_4 : decode cX3_has 4 = .ok (.iand, 1) := by decide +kernel
theorem dX3_has_5 : decode cX3_has 5 = .ok (.iconst 1, 1) := by decide +kernel
theorem dX3_has_6 : decode cX3_has 6 = .ok (.if_icmp .ne 7, 3) := by decide +kernel
theorem dX3_has_9 : decode cX3_has 9 = .ok (.iconst 1, 1) := by decide +kernel
theorem dX3_has_10 : decode cX3_has 10 = .ok (.goto 4, 3) := by decide +kernel
theorem dX3_has_13 : decode cX3_has 13 = .ok (.iconst 0, 1) := by decide +kernel
theorem dX3_has_14 : decode cX3_has 14 = .ok (.ireturn, 1) := by decide +kernel
theorem dX3_bears_0 : decode cX3_bears 0 = .ok (.aload_n 0, 1) := by decide +kernel
theorem dX3_bears_1 : decode cX3_bears 1 = .ok (.bipush 8, 2) := by decide +kernel
theorem dX3_bears_3 : decode cX3_bears 3 = .ok (.iconst (-1), 1) := by decide +kernel
theorem dX3_bears_4 : decode cX3_bears 4 = .ok (.invokevirtual 188, 3) := by decide +kernel
theorem dX3_bears_7 : decode cX3_bears 7 = .ok (.bipush (-9), 2) := by decide +kernel
theorem dX3_bears_9 : decode cX3_bears 9 = .ok (.if_icmp .eq 5, 3) := by decide +kernel
theorem dX3_bears_12 : decode cX3_bears 12 = .ok (.iconst 0, 1) := by decide +kernel
theorem dX3_bears_13 : decode cX3_bears 13 = .ok (.ireturn, 1) := by decide +kernel
theorem dX3_bears_14 : decode cX3_bears 14 = .ok (.iconst 0, 1) := by decide +kernel
theorem dX3_bears_15 : decode cX3_bears 15 = .ok (.istore_n 1, 1) := by decide +kernel
theorem dX3_bears_16 : decode cX3_bears 16 = .ok (.iconst 0, 1) := by decide +kernel
theorem dX3_bears_17 : decode cX3_bears 17 = .ok (.istore_n 2, 1) := by decide +kernel
theorem dX3_bears_18 : decode cX3_bears 18 = .ok (.iload_n 2, 1) := by decide +kernel
theorem dX3_bears_19 : decode cX3_bears 19 = .ok (.aload_n 0, 1) := by decide +kernel
theorem dX3_bears_20 : decode cX3_bears 20 = .ok (.getfield 19, 3) := by decide +kernel
theorem dX3_bears_23 : decode cX3_bears 23 = .ok (.getfield 146, 3) := by decide +kernel
theorem dX3_bears_26 : decode cX3_bears 26 = .ok (.if_icmp .ge 27, 3) := by decide +kernel
theorem dX3_bears_29 : decode cX3_bears 29 = .ok (.aload_n 0, 1) := by decide +kernel
theorem dX3_bears_30 : decode cX3_bears 30 = .ok (.bipush 8, 2) := by decide +kernel
theorem dX3_bears_32 : decode cX3_bears 32 = .ok (.iload_n 2, 1) := by decide +kernel
theorem dX3_bears_33 : decode cX3_bears 33 = .ok (.invokevirtual 188, 3) := by decide +kernel
theorem dX3_bears_36 : decode cX3_bears 36 = .ok (.bipush (-9), 2) := by decide +kernel
theorem dX3_bears_38 : decode cX3_bears 38 = .ok (.if_icmp .ne 9, 3) := by decide +kernel
theorem dX3_bears_41 : decode cX3_bears 41 = .ok (.iload_n 1, 1) := by decide +kernel
theorem dX3_bears_42 : decode cX3_bears 42 = .ok (.iconst 1, 1) := by decide +kernel
theorem dX3_bears_43 : decode cX3_bears 43 = .ok (.iload_n 2, 1) := by decide +kernel
theorem dX3_bears_44 : decode cX3_bears 44 = .ok (.ishl, 1) := by decide +kernel
theorem dX3_bears_45 : decode cX3_bears 45 = .ok (.ior, 1) := by decide +kernel
theorem dX3_bears_46 : decode cX3_bears 46 = .ok (.istore_n 1, 1) := by decide +kernel
theorem dX3_bears_47 : decode cX3_bears 47 = .ok (.iinc 2 1, 3) := by decide +kernel
theorem dX3_bears_50 : decode cX3_bears 50 = .ok (.goto (-32), 3) := by decide +kernel
theorem dX3_bears_53 : decode cX3_bears 53 = .ok (.iload_n 1, 1) := by decide +kernel
theorem dX3_bears_54 : decode cX3_bears 54 = .ok (.ireturn, 1) := by decide +kernel
theorem dX3_cart_0 : decode cX3_cart 0 = .ok (.aload_n 0, 1) := by decide +kernel
theorem dX3_cart_1 : decode cX3_cart 1 = .ok (.iload_n 1, 1) := by decide +kernel
theorem dX3_cart_2 : decode cX3_cart 2 = .ok (.invokevirtual 87, 3) := by decide +kernel
theorem dX3_cart_5 : decode cX3_cart 5 = .ok (.ifCond .eq 33, 3) := by decide +kernel
theorem dX3_cart_8 : decode cX3_cart 8 = .ok (.aload_n 0, 1) := by decide +kernel
theorem dX3_cart_9 : decode cX3_cart 9 = .ok (.iload_n 2, 1) := by decide +kernel
theorem dX3_cart_10 : decode cX3_cart 10 = .ok (.invokevirtual 87, 3) := by decide +kernel
theorem dX3_cart_13 : decode cX3_cart 13 = .ok (.ifCond .eq 25, 3) := by decide +kernel
theorem dX3_cart_16 : decode cX3_cart 16 = .ok (.iload_n 3, 1) := by decide +kernel
theorem dX3_cart_17 : decode cX3_cart 17 = .ok (.iconst 1, 1) := by decide +kernel
theorem dX3_cart_18 : decode cX3_cart 18 = .ok (.if_icmp .lt 20, 3) := by decide +kernel
theorem dX3_cart_21 : decode cX3_cart 21 = .ok (.iload_n 3, 1) := by decide +kernel
theorem dX3_cart_22 : decode cX3_cart 22 = .ok (.bipush 9, 2) := by decide +kernel
theorem dX3_cart_24 : decode cX3_cart 24 = .ok (.if_icmp .gt 14, 3) := by decide +kernel
theorem dX3_cart_27 : decode cX3_cart 27 = .ok (.iload 4, 2) := by decide +kernel
theorem dX3_cart_29 : decode cX3_cart 29 = .ok (.ifCond .lt 9, 3) := by decide +kernel
theorem dX3_cart_32 : decode cX3_cart 32 = .ok (.iload 4, 2) := by decide +kernel
theorem dX3_cart_34 : decode cX3_cart 34 = .ok (.iconst 1, 1) := by decide +kernel
theorem dX3_cart_35 : decode cX3_cart 35 = .ok (.if_icmp .le 5, 3) := by decide +kernel
theorem dX3_cart_38 : decode cX3_cart 38 = .ok (.iconst (-1), 1) := by decide +kernel
theorem dX3_cart_39 : decode cX3_cart 39 = .ok (.ireturn, 1) := by decide +kernel
theorem dX3_cart_40 : decode cX3_cart 40 = .ok (.aload_n 0, 1) := by decide +kernel
theorem dX3_cart_41 : decode cX3_cart 41 = .ok (.getfield 19, 3) := by decide +kernel
theorem dX3_cart_44 : decode cX3_cart 44 = .ok (.aload_n 0, 1) := by decide +kernel
theorem dX3_cart_45 : decode cX3_cart 45 = .ok (.getfield 29, 3) := by decide +kernel
theorem dX3_cart_48 : decode cX3_cart 48 = .ok (.iconst (-1), 1) := by decide +kernel
theorem dX3_cart_49 : decode cX3_cart 49 = .ok (.invokevirtual 172, 3) := by decide +kernel
theorem dX3_cart_52 : decode cX3_cart 52 = .ok (.istore 5, 2) := by decide +kernel
theorem dX3_cart_54 : decode cX3_cart 54 = .ok (.iconst 0, 1) := by decide +kernel
theorem dX3_cart_55 : decode cX3_cart 55 = .ok (.istore 6, 2) := by decide +kernel
theorem dX3_cart_57 : decode cX3_cart 57 = .ok (.iload 6, 2) := by decide +kernel
theorem dX3_cart_59 : decode cX3_cart 59 = .ok (.iconst 4, 1) := by decide +kernel
theorem dX3_cart_60 : decode cX3_cart 60 = .ok (.if_icmp .ge 19, 3) := by decide +kernel
theorem dX3_cart_63 : decode cX3_cart 63 = .ok (.aload_n 0, 1) := by decide +kernel
theorem dX3_cart_64 : decode cX3_cart 64 = .ok (.getfield 62, 3) := by decide +kernel
theorem dX3_cart_67 : decode cX3_cart 67 = .ok (.iload 6, 2) := by decide +kernel
theorem dX3_cart_69 : decode cX3_cart 69 = .ok (.sipush 1000, 3) := by decide +kernel
theorem dX3_cart_72 : decode cX3_cart 72 = .ok (.iastore, 1) := by decide +kernel
theorem dX3_cart_73 : decode cX3_cart 73 = .ok (.iinc 6 1, 3) := by decide +kernel
theorem dX3_cart_76 : decode cX3_cart 76 = .ok (.goto (-19), 3) := by decide +kernel
theorem dX3_cart_79 : decode cX3_cart 79 = .ok (.aload_n 0, 1) := by decide +kernel
theorem dX3_cart_80 : decode cX3_cart 80 = .ok (.getfield 62, 3) := by decide +kernel
theorem dX3_cart_83 : decode cX3_cart 83 = .ok (.iload_n 1, 1) := by decide +kernel
theorem dX3_cart_84 : decode cX3_cart 84 = .ok (.aload_n 0, 1) := by decide +kernel
theorem dX3_cart_85 : decode cX3_cart 85 = .ok (.iload 5, 2) := by decide +kernel
theorem dX3_cart_87 : decode cX3_cart 87 = .ok (.iload_n 1, 1) := by decide +kernel
theorem dX3_cart_88 : decode cX3_cart 88 = .ok (.iload_n 3, 1) := by decide +kernel
theorem dX3_cart_89 : decode cX3_cart 89 = .ok (.invokevirtual 229, 3) := by decide +kernel
theorem dX3_cart_92 : decode cX3_cart 92 = .ok (.iastore, 1) := by decide +kernel
theorem dX3_cart_93 : decode cX3_cart 93 = .ok (.iconst 1, 1) := by decide +kernel
theorem dX3_cart_94 : decode cX3_cart 94 = .ok (.istore 6, 2) := by decide +kernel
theorem dX3_cart_96 : decode cX3_cart 96 = .ok (.iload 6, 2) := by decide +kernel
theorem dX3_cart_98 : decode cX3_cart 98 = .ok (.aload_n 0, 1) := by decide +kernel
theorem dX3_cart_99 : decode cX3_cart 99 = .ok (.getfield 19, 3) := by decide +kernel
theorem dX3_cart_102 : decode cX3_cart 102 = .ok (.getfield 149, 3) := by decide +kernel
theorem dX3_cart_105 : decode cX3_cart 105 = .ok (.if_icmp .ge 39, 3) := by decide +kernel
theorem dX3_cart_108 : decode cX3_cart 108 = .ok (.iconst 0, 1) := by decide +kernel
theorem dX3_cart_109 : decode cX3_cart 109 = .ok (.istore 7, 2) := by decide +kernel
theorem dX3_cart_111 : decode cX3_cart 111 = .ok (.iload 7, 2) := by decide +kernel
theorem dX3_cart_113 : decode cX3_cart 113 = .ok (.aload_n 0, 1) := by decide +kernel
theorem dX3_cart_114 : decode cX3_cart 114 = .ok (.getfield 19, 3) := by decide +kernel
theorem dX3_cart_117 : decode cX3_cart 117 = .ok (.getfield 149, 3) := by decide +kernel
theorem dX3_cart_120 : decode cX3_cart 120 = .ok (.if_icmp .ge 18, 3) := by decide +kernel
theorem dX3_cart_123 : decode cX3_cart 123 = .ok (.aload_n 0, 1) := by decide +kernel
theorem dX3_cart_124 : decode cX3_cart 124 = .ok (.iload 5, 2) := by decide +kernel
theorem dX3_cart_126 : decode cX3_cart 126 = .ok (.iload 7, 2) := by decide +kernel
theorem dX3_cart_128 : decode cX3_cart 128 = .ok (.iload_n 3, 1) := by decide +kernel
theorem dX3_cart_129 : decode cX3_cart 129 = .ok (.invokevirtual 233, 3) := by decide +kernel
theorem dX3_cart_132 : decode cX3_cart 132 = .ok (.iinc 7 1, 3) := by decide +kernel
theorem dX3_cart_135 : decode cX3_cart 135 = .ok (.goto (-24), 3) := by decide +kernel
theorem dX3_cart_138 : decode cX3_cart 138 = .ok (.iinc 6 1, 3) := by decide +kernel
theorem dX3_cart_141 : decode cX3_cart 141 = .ok (.goto (-45), 3) := by decide +kernel
theorem dX3_cart_144 : decode cX3_cart 144 = .ok (.aload_n 0, 1) := by decide +kernel
theorem dX3_cart_145 : decode cX3_cart 145 = .ok (.getfield 62, 3) := by decide +kernel
theorem dX3_cart_148 : decode cX3_cart 148 = .ok (.iload_n 2, 1) := by decide +kernel
theorem dX3_cart_149 : decode cX3_cart 149 = .ok (.iaload, 1) := by decide +kernel
theorem dX3_cart_150 : decode cX3_cart 150 = .ok (.sipush 1000, 3) := by decide +kernel
theorem dX3_cart_153 : decode cX3_cart 153 = .ok (.if_icmp .lt 6, 3) := by decide +kernel
theorem dX3_cart_156 : decode cX3_cart 156 = .ok (.bipush (-9), 2) := by decide +kernel
theorem dX3_cart_158 : decode cX3_cart 158 = .ok (.ireturn, 1) := by decide +kernel
theorem dX3_cart_159 : decode cX3_cart 159 = .ok (.iload 4, 2) := by decide +kernel
theorem dX3_cart_161 : decode cX3_cart 161 = .ok (.ifCond .ne 15, 3) := by decide +kernel
theorem dX3_cart_164 : decode cX3_cart 164 = .ok (.aload_n 0, 1) := by decide +kernel
theorem dX3_cart_165 : decode cX3_cart 165 = .ok (.getfield 62, 3) := by decide +kernel
theorem dX3_cart_168 : decode cX3_cart 168 = .ok (.iload_n 2, 1) := by decide +kernel
theorem dX3_cart_169 : decode cX3_cart 169 = .ok (.iaload, 1) := by decide +kernel
theorem dX3_cart_170 : decode cX3_cart 170 = .ok (.bipush 8, 2) := by decide +kernel
theorem dX3_cart_172 : decode cX3_cart 172 = .ok (.idiv, 1) := by decide +kernel
theorem dX3_cart_173 : decode cX3_cart 173 = .ok (.goto 12, 3) := by decide +kernel
theorem dX3_cart_176 : decode cX3_cart 176 = .ok (.aload_n 0, 1) := by decide +kernel
theorem dX3_cart_177 : decode cX3_cart 177 = .ok (.getfield 62, 3) := by decide +kernel
theorem dX3_cart_180 : decode cX3_cart 180 = .ok (.iload_n 2, 1) := by decide +kernel
theorem dX3_cart_181 : decode cX3_cart 181 = .ok (.iaload, 1) := by decide +kernel
theorem dX3_cart_182 : decode cX3_cart 182 = .ok (.bipush 8, 2) := by decide +kernel
theorem dX3_cart_184 : decode cX3_cart 184 = .ok (.irem, 1) := by decide +kernel
theorem dX3_cart_185 : decode cX3_cart 185 = .ok (.ireturn, 1) := by decide +kernel
end
section
theorem dX3_wakingCost_0 : decode cX3_wakingCost 0 = .ok (.iload_n 1, 1) := by decide +kernel
theorem dX3_wakingCost_1 : decode cX3_wakingCost 1 = .ok (.aload_n 0, 1) := by decide +kernel
theorem dX3_wakingCost_2 : decode cX3_wakingCost 2 = .ok (.getfield 19, 3) := by decide +kernel
theorem dX3_wakingCost_5 : decode cX3_wakingCost 5 = .ok (.iload_n 2, 1) := by decide +kernel
theorem dX3_wakingCost_6 : decode cX3_wakingCost 6 = .ok (.iload_n 3, 1) := by decide +kernel
theorem dX3_wakingCost_7 : decode cX3_wakingCost 7 = .ok (.invokevirtual 237, 3) := by decide +kernel
theorem dX3_wakingCost_10 : decode cX3_wakingCost 10 = .ok (.iand, 1) := by decide +kernel
theorem dX3_wakingCost_11 : decode cX3_wakingCost 11 = .ok (.invokestatic 179, 3) := by decide +kernel
theorem dX3_wakingCost_14 : decode cX3_wakingCost 14 = .ok (.bipush 8, 2) := by decide +kernel
theorem dX3_wakingCost_16 : decode cX3_wakingCost 16 = .ok (.imul, 1) := by decide +kernel
theorem dX3_wakingCost_17 : decode cX3_wakingCost 17 = .ok (.ireturn, 1) := by decide +kernel
theorem dX3_driveOn_0 : decode cX3_driveOn 0 = .ok (.aload_n 0, 1) := by decide +kernel
theorem dX3_driveOn_1 : decode cX3_driveOn 1 = .ok (.getfield 62, 3) := by decide +kernel
theorem dX3_driveOn_4 : decode cX3_driveOn 4 = .ok (.iload_n 2, 1) := by decide +kernel
theorem dX3_driveOn_5 : decode cX3_driveOn 5 = .ok (.iaload, 1) := by decide +kernel
theorem dX3_driveOn_6 : decode cX3_driveOn 6 = .ok (.sipush 1000, 3) := by decide +kernel
theorem dX3_driveOn_9 : decode cX3_driveOn 9 = .ok (.if_icmp .lt 4, 3) := by decide +kernel
theorem dX3_driveOn_12 : decode cX3_driveOn 12 = .ok (.return_, 1) := by decide +kernel
theorem dX3_driveOn_13 : decode cX3_driveOn 13 = .ok (.iconst 0, 1) := by decide +kernel
theorem dX3_driveOn_14 : decode cX3_driveOn 14 = .ok (.istore 4, 2) := by decide +kernel
theorem dX3_driveOn_16 : decode cX3_driveOn 16 = .ok (.iload 4, 2) := by decide +kernel
theorem dX3_driveOn_18 : decode cX3_driveOn 18 = .ok (.aload_n 0, 1) := by decide +kernel
theorem dX3_driveOn_19 : decode cX3_driveOn 19 = .ok (.getfield 19, 3) := by decide +kernel
theorem dX3_driveOn_22 : decode cX3_driveOn 22 = .ok (.getfield 149, 3) := by decide +kernel
theorem dX3_driveOn_25 : decode cX3_driveOn 25 = .ok (.if_icmp .ge 60, 3) := by decide +kernel
theorem dX3_driveOn_28 : decode cX3_driveOn 28 = .ok (.aload_n 0, 1) := by decide +kernel
theorem dX3_driveOn_29 : decode cX3_driveOn 29 = .ok (.getfield 19, 3) := by decide +kernel
theorem dX3_driveOn_32 : decode cX3_driveOn 32 = .ok (.getfield 94, 3) := by decide +kernel
theorem dX3_driveOn_35 : decode cX3_driveOn 35 = .ok (.iload_n 2, 1) := by decide +kernel
theorem dX3_driveOn_36 : decode cX3_driveOn 36 = .ok (.iaload, 1) := by decide +kernel
theorem dX3_driveOn_37 : decode cX3_driveOn 37 = .ok (.iload 4, 2) := by decide +kernel
theorem dX3_driveOn_39 : decode cX3_driveOn 39 = .ok (.invokestatic 223, 3) := by decide +kernel
theorem dX3_driveOn_42 : decode cX3_driveOn 42 = .ok (.ifCond .eq 37, 3) := by decide +kernel
theorem dX3_driveOn_45 : decode cX3_driveOn 45 = .ok (.aload_n 0, 1) := by decide +kernel
theorem dX3_driveOn_46 : decode cX3_driveOn 46 = .ok (.getfield 62, 3) := by decide +kernel
theorem dX3_driveOn_49 : decode cX3_driveOn 49 = .ok (.iload 4, 2) := by decide +kernel
theorem dX3_driveOn_51 : decode cX3_driveOn 51 = .ok (.aload_n 0, 1) := by decide +kernel
theorem dX3_driveOn_52 : decode cX3_driveOn 52 = .ok (.getfield 62, 3) := by decide +kernel
theorem dX3_driveOn_55 : decode cX3_driveOn 55 = .ok (.iload 4, 2) := by decide +kernel
theorem dX3_driveOn_57 : decode cX3_driveOn 57 = .ok (.iaload, 1) := by decide +kernel
theorem dX3_driveOn_58 : decode cX3_driveOn 58 = .ok (.aload_n 0, 1) := by decide +kernel
theorem dX3_driveOn_59 : decode cX3_driveOn 59 = .ok (.getfield 62, 3) := by decide +kernel
theorem dX3_driveOn_62 : decode cX3_driveOn 62 = .ok (.iload_n 2, 1) := by decide +kernel
theorem dX3_driveOn_63 : decode cX3_driveOn 63 = .ok (.iaload, 1) := by decide +kernel
theorem dX3_driveOn_64 : decode cX3_driveOn 64 = .ok (.iconst 1, 1) := by decide +kernel
theorem dX3_driveOn_65 : decode cX3_driveOn 65 = .ok (.iadd, 1) := by decide +kernel
theorem dX3_driveOn_66 : decode cX3_driveOn 66 = .ok (.aload_n 0, 1) := by decide +kernel
theorem dX3_driveOn_67 : decode cX3_driveOn 67 = .ok (.iload_n 1, 1) := by decide +kernel
theorem dX3_driveOn_68 : decode cX3_driveOn 68 = .ok (.iload 4, 2) := by decide +kernel
theorem dX3_driveOn_70 : decode cX3_driveOn 70 = .ok (.iload_n 3, 1) := by decide +kernel
theorem dX3_driveOn_71 : decode cX3_driveOn 71 = .ok (.invokevirtual 229, 3) := by decide +kernel
theorem dX3_driveOn_74 : decode cX3_driveOn 74 = .ok (.iadd, 1) := by decide +kernel
theorem dX3_driveOn_75 : decode cX3_driveOn 75 = .ok (.invokestatic 166, 3) := by decide +kernel
theorem dX3_driveOn_78 : decode cX3_driveOn 78 = .ok (.iastore, 1) := by decide +kernel
theorem dX3_driveOn_79 : decode cX3_driveOn 79 = .ok (.iinc 4 1, 3) := by decide +kernel
theorem dX3_driveOn_82 : decode cX3_driveOn 82 = .ok (.goto (-66), 3) := by decide +kernel
theorem dX3_driveOn_85 : decode cX3_driveOn 85 = .ok (.return_, 1) := by decide +kernel
theorem dX3_drum_0 : decode cX3_drum 0 = .ok (.aload_n 0, 1) := by decide +kernel
theorem dX3_drum_1 : decode cX3_drum 1 = .ok (.iload_n 1, 1) := by decide +kernel
theorem dX3_drum_2 : decode cX3_drum 2 = .ok (.invokevirtual 87, 3) := by decide +kernel
theorem dX3_drum_5 : decode cX3_drum 5 = .ok (.ifCond .ne 5, 3) := by decide +kernel
theorem dX3_drum_8 : decode cX3_drum 8 = .ok (.iconst (-1), 1) := by decide +kernel
theorem dX3_drum_9 : decode cX3_drum 9 = .ok (.ireturn, 1) := by decide +kernel
theorem dX3_drum_10 : decode cX3_drum 10 = .ok (.aload_n 0, 1) := by decide +kernel
theorem dX3_drum_11 : decode cX3_drum 11 = .ok (.getfield 19, 3) := by decide +kernel
theorem dX3_drum_14 : decode cX3_drum 14 = .ok (.aload_n 0, 1) := by decide +kernel
theorem dX3_drum_15 : decode cX3_drum 15 = .ok (.getfield 29, 3) := by decide +kernel
theorem dX3_drum_18 : decode cX3_drum 18 = .ok (.iconst (-1), 1) := by decide +kernel
theorem dX3_drum_19 : decode cX3_drum 19 = .ok (.invokevirtual 172, 3) := by decide +kernel
theorem dX3_drum_22 : decode cX3_drum 22 = .ok (.istore_n 2, 1) := by decide +kernel
theorem dX3_drum_23 : decode cX3_drum 23 = .ok (.bipush 9, 2) := by decide +kernel
theorem dX3_drum_25 : decode cX3_drum 25 = .ok (.istore_n 3, 1) := by decide +kernel
theorem dX3_drum_26 : decode cX3_drum 26 = .ok (.iload_n 3, 1) := by decide +kernel
theorem dX3_drum_27 : decode cX3_drum 27 = .ok (.ifCond .lt 31, 3) := by decide +kernel
theorem dX3_drum_30 : decode cX3_drum 30 = .ok (.aload_n 0, 1) := by decide +kernel
theorem dX3_drum_31 : decode cX3_drum 31 = .ok (.iload_n 2, 1) := by decide +kernel
theorem dX3_drum_32 : decode cX3_drum 32 = .ok (.aload_n 0, 1) := by decide +kernel
theorem dX3_drum_33 : decode cX3_drum 33 = .ok (.getfield 19, 3) := by decide +kernel
theorem dX3_drum_36 : decode cX3_drum 36 = .ok (.iload_n 1, 1) := by decide +kernel
theorem dX3_drum_37 : decode cX3_drum 37 = .ok (.iload_n 3, 1) := by decide +kernel
theorem dX3_drum_38 : decode cX3_drum 38 = .ok (.invokevirtual 237, 3) := by decide +kernel
theorem dX3_drum_41 : decode cX3_drum 41 = .ok (.iconst (-1), 1) := by decide +kernel
theorem dX3_drum_42 : decode cX3_drum 42 = .ok (.ixor, 1) := by decide +kernel
theorem dX3_drum_43 : decode cX3_drum 43 = .ok (.iand, 1) := by decide +kernel
theorem dX3_drum_44 : decode cX3_drum 44 = .ok (.invokevirtual 191, 3) := by decide +kernel
theorem dX3_drum_47 : decode cX3_drum 47 = .ok (.ifCond .ne 5, 3) := by decide +kernel
theorem dX3_drum_50 : decode cX3_drum 50 = .ok (.iload_n 3, 1) := by decide +kernel
theorem dX3_drum_51 : decode cX3_drum 51 = .ok (.ireturn, 1) := by decide +kernel
theorem dX3_drum_52 : decode cX3_drum 52 = .ok (.iinc 3 (-1), 3) := by decide +kernel
theorem dX3_drum_55 : decode cX3_drum 55 = .ok (.goto (-29), 3) := by decide +kernel
theorem dX3_drum_58 : decode cX3_drum 58 = .ok (.bipush (-9), 2) := by decide +kernel
theorem dX3_drum_60 : decode cX3_drum 60 = .ok (.ireturn, 1) := by decide +kernel
theorem dX3_wants_0 : decode cX3_wants 0 = .ok (.aload_n 0, 1) := by decide +kernel
theorem dX3_wants_1 : decode cX3_wants 1 = .ok (.iload_n 1, 1) := by decide +kernel
theorem dX3_wants_2 : decode cX3_wants 2 = .ok (.invokevirtual 87, 3) := by decide +kernel
theorem dX3_wants_5 : decode cX3_wants 5 = .ok (.ifCond .ne 5, 3) := by decide +kernel
theorem dX3_wants_8 : decode cX3_wants 8 = .ok (.iconst (-1), 1) := by decide +kernel
theorem dX3_wants_9 : decode cX3_wants 9 = .ok (.ireturn, 1) := by decide +kernel
theorem dX3_wants_10 : decode cX3_wants 10 = .ok (.aload_n 0, 1) := by decide +kernel
theorem dX3_wants_11 : decode cX3_wants 11 = .ok (.getfield 19, 3) := by decide +kernel
theorem dX3_wants_14 : decode cX3_wants 14 = .ok (.aload_n 0, 1) := by decide +kernel
theorem dX3_wants_15 : decode cX3_wants 15 = .ok (.getfield 29, 3) := by decide +kernel
theorem dX3_wants_18 : decode cX3_wants 18 = .ok (.invokevirtual 240, 3) := by decide +kernel
theorem dX3_wants_21 : decode cX3_wants 21 = .ok (.aload_n 0, 1) := by decide +kernel
theorem dX3_wants_22 : decode cX3_wants 22 = .ok (.getfield 19, 3) := by decide +kernel
theorem dX3_wants_25 : decode cX3_wants 25 = .ok (.getfield 244, 3) := by decide +kernel
theorem dX3_wants_28 : decode cX3_wants 28 = .ok (.iload_n 1, 1) := by decide +kernel
theorem dX3_wants_29 : decode cX3_wants 29 = .ok (.iaload, 1) := by decide +kernel
theorem dX3_wants_30 : decode cX3_wants 30 = .ok (.iand, 1) := by decide +kernel
theorem dX3_wants_31 : decode cX3_wants 31 = .ok (.invokestatic 179, 3) := by decide +kernel
theorem dX3_wants_34 : decode cX3_wants 34 = .ok (.ireturn, 1) := by decide +kernel
theorem dX3_counted_0 : decode cX3_counted 0 = .ok (.iload_n 1, 1) := by decide +kernel
theorem dX3_counted_1 : decode cX3_counted 1 = .ok (.ifCond .lt 19, 3) := by decide +kernel
theorem dX3_counted_4 : decode cX3_counted 4 = .ok (.iload_n 1, 1) := by decide +kernel
theorem dX3_counted_5 : decode cX3_counted 5 = .ok (.bipush 20, 2) := by decide +kernel
theorem dX3_counted_7 : decode cX3_counted 7 = .ok (.if_icmp .gt 13, 3) := by decide +kernel
theorem dX3_counted_10 : decode cX3_counted 10 = .ok (.iload_n 2, 1) := by decide +kernel
theorem dX3_counted_11 : decode cX3_counted 11 = .ok (.ifCond .lt 9, 3) := by decide +kernel
theorem dX3_counted_14 : decode cX3_counted 14 = .ok (.iload_n 2, 1) := by decide +kernel
theorem dX3_counted_15 : decode cX3_counted 15 = .ok (.bipush 6, 2) := by decide +kernel
theorem dX3_counted_17 : decode cX3_counted 17 = .ok (.if_icmp .le 5, 3) := by decide +kernel
theorem dX3_counted_20 : decode cX3_counted 20 = .ok (.iconst (-1), 1) := by decide +kernel
theorem dX3_counted_21 : decode cX3_counted 21 = .ok (.ireturn, 1) := by decide +kernel
theorem dX3_counted_22 : decode cX3_counted 22 = .ok (.aload_n 0, 1) := by decide +kernel
theorem dX3_counted_23 : decode cX3_counted 23 = .ok (.getfield 84, 3) := by decide +kernel
theorem dX3_counted_26 : decode cX3_counted 26 = .ok (.bipush 6, 2) := by decide +kernel
theorem dX3_counted_28 : decode cX3_counted 28 = .ok (.if_icmp .lt 6, 3) := by decide +kernel
theorem dX3_counted_31 : decode cX3_counted 31 = .ok (.bipush (-3), 2) := by decide +kernel
theorem dX3_counted_33 : decode cX3_counted 33 = .ok (.ireturn, 1) := by decide +kernel
theorem dX3_counted_34 : decode cX3_counted 34 = .ok (.aload_n 0, 1) := by decide +kernel
theorem dX3_counted_35 : decode cX3_counted 35 = .ok (.getfield 47, 3) := by decide +kernel
theorem dX3_counted_38 : decode cX3_counted 38 = .ok (.aload_n 0, 1) := by decide +kernel
theorem dX3_counted_39 : decode cX3_counted 39 = .ok (.getfield 84, 3) := by decide +kernel
theorem dX3_counted_42 : decode cX3_counted 42 = .ok (.iload_n 1, 1) := by decide +kernel
theorem dX3_counted_43 : decode cX3_counted 43 = .ok (.iastore, 1) := by decide +kernel
theorem dX3_counted_44 : decode cX3_counted 44 = .ok (.aload_n 0, 1) := by decide +kernel
theorem dX3_counted_45 : decode cX3_counted 45 = .ok (.getfield 51, 3) := by decide +kernel
theorem dX3_counted_48 : decode cX3_counted 48 = .ok (.aload_n 0, 1) := by decide +kernel
theorem dX3_counted_49 : decode cX3_counted 49 = .ok (.getfield 84, 3) := by decide +kernel
theorem dX3_counted_52 : decode cX3_counted 52 = .ok (.iload_n 2, 1) := by decide +kernel
theorem dX3_counted_53 : decode cX3_counted 53 = .ok (.iastore, 1) := by decide +kernel
theorem dX3_counted_54 : decode cX3_counted 54 = .ok (.aload_n 0, 1) := by decide +kernel
theorem dX3_counted_55 : decode cX3_counted 55 = .ok (.dup, 1) := by decide +kernel
theorem dX3_counted_56 : decode cX3_counted 56 = .ok (.getfield 84, 3) := by decide +kernel
theorem dX3_counted_59 : decode cX3_counted 59 = .ok (.iconst 1, 1) := by decide +kernel
theorem dX3_counted_60 : decode cX3_counted 60 = .ok (.iadd, 1) := by decide +kernel
theorem dX3_counted_61 : decode cX3_counted 61 = .ok (.putfield 84, 3) := by decide +kernel
theorem dX3_counted_64 : decode cX3_counted 64 = .ok (.aload_n 0, 1) := by decide +kernel
theorem dX3_counted_65 : decode cX3_counted 65 = .ok (.getfield 84, 3) := by decide +kernel
theorem dX3_counted_68 : decode cX3_counted 68 = .ok (.ireturn, 1) := by decide +kernel
theorem dX3_forget_0 : decode cX3_forget 0 = .ok (.aload_n 0, 1) := by decide +kernel
theorem dX3_forget_1 : decode cX3_forget 1 = .ok (.getfield 84, 3) := by decide +kernel
theorem dX3_forget_4 : decode cX3_forget 4 = .ok (.istore_n 1, 1) := by decide +kernel
theorem dX3_forget_5 : decode cX3_forget 5 = .ok (.aload_n 0, 1) := by decide +kernel
theorem dX3_forget_6 : decode cX3_forget 6 = .ok (.iconst 0, 1) := by decide +kernel
theorem dX3_forget_7 : decode cX3_forget 7 = .ok (.putfield 84, 3) := by decide +kernel
theorem dX3_forget_10 : decode cX3_forget 10 = .ok (.iload_n 1, 1) := by decide +kernel
theorem dX3_forget_11 : decode cX3_forget 11 = .ok (.ireturn, 1) := by decide +kernel
theorem dX3_sham_0 : decode cX3_sham 0 = .ok (.iconst 0, 1) := by decide +kernel
theorem dX3_sham_1 : decode cX3_sham 1 = .ok (.istore_n 1, 1) := by decide +kernel
theorem dX3_sham_2 : decode cX3_sham 2 = .ok (.iconst 0, 1) := by decide +kernel
theorem dX3_sham_3 : decode cX3_sham 3 = .ok (.istore_n 2, 1) := by decide +kernel
theorem dX3_sham_4 : decode cX3_sham 4 = .ok (.iload_n 2, 1) := by decide +kernel
theorem dX3_sham_5 : decode cX3_sham 5 = .ok (.aload_n 0, 1) := by decide +kernel
theorem dX3_sham_6 : decode cX3_sham 6 = .ok (.getfield 19, 3) := by decide +kernel
theorem dX3_sham_9 : decode cX3_sham 9 = .ok (.getfield 146, 3) := by decide +kernel
theorem dX3_sham_12 : decode cX3_sham 12 = .ok (.if_icmp .ge 23, 3) := by decide +kernel
theorem dX3_sham_15 : decode cX3_sham 15 = .ok (.aload_n 0, 1) := by decide +kernel
theorem dX3_sham_16 : decode cX3_sham 16 = .ok (.iload_n 2, 1) := by decide +kernel
theorem dX3_sham_17 : decode cX3_sham 17 = .ok (.invokevirtual 247, 3) := by decide +kernel
theorem dX3_sham_20 : decode cX3_sham 20 = .ok (.ifCond .eq 9, 3) := by decide +kernel
theorem dX3_sham_23 : decode cX3_sham 23 = .ok (.iload_n 1, 1) := by decide +kernel
theorem dX3_sham_24 : decode cX3_sham 24 = .ok (.iconst 1, 1) := by decide +kernel
theorem dX3_sham_25 : decode cX3_sham 25 = .ok (.iload_n 2, 1) := by decide +kernel
theorem dX3_sham_26 : decode cX3_sham 26 = .ok (.ishl, 1) := by decide +kernel
theorem dX3_sham_27 : decode cX3_sham 27 = .ok (.ior, 1) := by decide +kernel
theorem dX3_sham_28 : decode cX3_sham 28 = .ok (.istore_n 1, 1) := by decide +kernel
theorem dX3_sham_29 : decode cX3_sham 29 = .ok (.iinc 2 1, 3) := by decide +kernel
theorem dX3_sham_32 : decode cX3_sham 32 = .ok (.goto (-28), 3) := by decide +kernel
theorem dX3_sham_35 : decode cX3_sham 35 = .ok (.iload_n 1, 1) := by decide +kernel
theorem dX3_sham_36 : decode cX3_sham 36 = .ok (.ireturn, 1) := by decide +kernel
theorem dX3_makesCountsSo_0 : decode cX3_makesCountsSo 0 = .ok (.aload_n 0, 1) := by decide +kernel
theorem dX3_makesCountsSo_1 : decode cX3_makesCountsSo 1 = .ok (.getfield 33, 3) := by decide +kernel
theorem dX3_makesCountsSo_4 : decode cX3_makesCountsSo 4 = .ok (.aload_n 0, 1) := by decide +kernel
theorem dX3_makesCountsSo_5 : decode cX3_makesCountsSo 5 = .ok (.getfield 19, 3) := by decide +kernel
theorem dX3_makesCountsSo_8 : decode cX3_makesCountsSo 8 = .ok (.invokevirtual 69, 3) := by decide +kernel
theorem dX3_makesCountsSo_11 : decode cX3_makesCountsSo 11 = .ok (.aload_n 0, 1) := by decide +kernel
theorem dX3_makesCountsSo_12 : decode cX3_makesCountsSo 12 = .ok (.getfield 29, 3) := by decide +kernel
theorem dX3_makesCountsSo_15 : decode cX3_makesCountsSo 15 = .ok (.getfield 112, 3) := by decide +kernel
theorem dX3_makesCountsSo_18 : decode cX3_makesCountsSo 18 = .ok (.iconst 0, 1) := by decide +kernel
theorem dX3_makesCountsSo_19 : decode cX3_makesCountsSo 19 = .ok (.aload_n 0, 1) := by decide +kernel
theorem dX3_makesCountsSo_20 : decode cX3_makesCountsSo 20 = .ok (.getfield 33, 3) := by decide +kernel
theorem dX3_makesCountsSo_23 : decode cX3_makesCountsSo 23 = .ok (.getfield 112, 3) := by decide +kernel
theorem dX3_makesCountsSo_26 : decode cX3_makesCountsSo 26 = .ok (.iconst 0, 1) := by decide +kernel
theorem dX3_makesCountsSo_27 : decode cX3_makesCountsSo 27 = .ok (.bipush 6, 2) := by decide +kernel
theorem dX3_makesCountsSo_29 : decode cX3_makesCountsSo 29 = .ok (.invokestatic 193, 3) := by decide +kernel
theorem dX3_makesCountsSo_32 : decode cX3_makesCountsSo 32 = .ok (.aload_n 0, 1) := by decide +kernel
theorem dX3_makesCountsSo_33 : decode cX3_makesCountsSo 33 = .ok (.invokevirtual 250, 3) := by decide +kernel
theorem dX3_makesCountsSo_36 : decode cX3_makesCountsSo 36 = .ok (.istore_n 2, 1) := by decide +kernel
theorem dX3_makesCountsSo_37 : decode cX3_makesCountsSo 37 = .ok (.iconst 0, 1) := by decide +kernel
theorem dX3_makesCountsSo_38 : decode cX3_makesCountsSo 38 = .ok (.istore_n 3, 1) := by decide +kernel
theorem dX3_makesCountsSo_39 : decode cX3_makesCountsSo 39 = .ok (.iload_n 3, 1) := by decide +kernel
theorem dX3_makesCountsSo_40 : decode cX3_makesCountsSo 40 = .ok (.iload_n 2, 1) := by decide +kernel
theorem dX3_makesCountsSo_41 : decode cX3_makesCountsSo 41 = .ok (.if_icmp .gt 57, 3) := by decide +kernel
theorem dX3_makesCountsSo_44 : decode cX3_makesCountsSo 44 = .ok (.aload_n 0, 1) := by decide +kernel
theorem dX3_makesCountsSo_45 : decode cX3_makesCountsSo 45 = .ok (.getfield 19, 3) := by decide +kernel
theorem dX3_makesCountsSo_48 : decode cX3_makesCountsSo 48 = .ok (.aload_n 0, 1) := by decide +kernel
theorem dX3_makesCountsSo_49 : decode cX3_makesCountsSo 49 = .ok (.getfield 33, 3) := by decide +kernel
theorem dX3_makesCountsSo_52 : decode cX3_makesCountsSo 52 = .ok (.iconst (-1), 1) := by decide +kernel
theorem dX3_makesCountsSo_53 : decode cX3_makesCountsSo 53 = .ok (.invokevirtual 172, 3) := by decide +kernel
theorem dX3_makesCountsSo_56 : decode cX3_makesCountsSo 56 = .ok (.iconst 1, 1) := by decide +kernel
theorem dX3_makesCountsSo_57 : decode cX3_makesCountsSo 57 = .ok (.iload_n 1, 1) := by decide +kernel
theorem dX3_makesCountsSo_58 : decode cX3_makesCountsSo 58 = .ok (.ishl, 1) := by decide +kernel
theorem dX3_makesCountsSo_59 : decode cX3_makesCountsSo 59 = .ok (.iconst (-1), 1) := by decide +kernel
theorem dX3_makesCountsSo_60 : decode cX3_makesCountsSo 60 = .ok (.ixor, 1) := by decide +kernel
theorem dX3_makesCountsSo_61 : decode cX3_makesCountsSo 61 = .ok (.iand, 1) := by decide +kernel
theorem dX3_makesCountsSo_62 : decode cX3_makesCountsSo 62 = .ok (.istore 4, 2) := by decide +kernel
theorem dX3_makesCountsSo_64 : decode cX3_makesCountsSo 64 = .ok (.aload_n 0, 1) := by decide +kernel
theorem dX3_makesCountsSo_65 : decode cX3_makesCountsSo 65 = .ok (.iload_n 3, 1) := by decide +kernel
theorem dX3_makesCountsSo_66 : decode cX3_makesCountsSo 66 = .ok (.iload 4, 2) := by decide +kernel
theorem dX3_makesCountsSo_68 : decode cX3_makesCountsSo 68 = .ok (.invokestatic 179, 3) := by decide +kernel
theorem dX3_makesCountsSo_71 : decode cX3_makesCountsSo 71 = .ok (.invokevirtual 253, 3) := by decide +kernel
theorem dX3_makesCountsSo_74 : decode cX3_makesCountsSo 74 = .ok (.ifCond .ne 5, 3) := by decide +kernel
theorem dX3_makesCountsSo_77 : decode cX3_makesCountsSo 77 = .ok (.iconst 0, 1) := by decide +kernel
theorem dX3_makesCountsSo_78 : decode cX3_makesCountsSo 78 = .ok (.ireturn, 1) := by decide +kernel
theorem dX3_makesCountsSo_79 : decode cX3_makesCountsSo 79 = .ok (.aload_n 0, 1) := by decide +kernel
theorem dX3_makesCountsSo_80 : decode cX3_makesCountsSo 80 = .ok (.getfield 33, 3) := by decide +kernel
theorem dX3_makesCountsSo_83 : decode cX3_makesCountsSo 83 = .ok (.aload_n 0, 1) := by decide +kernel
theorem dX3_makesCountsSo_84 : decode cX3_makesCountsSo 84 = .ok (.getfield 19, 3) := by decide +kernel
theorem dX3_makesCountsSo_87 : decode cX3_makesCountsSo 87 = .ok (.iload 4, 2) := by decide +kernel
theorem dX3_makesCountsSo_89 : decode cX3_makesCountsSo 89 = .ok (.invokevirtual 175, 3) := by decide +kernel
theorem dX3_makesCountsSo_92 : decode cX3_makesCountsSo 92 = .ok (.iinc 3 1, 3) := by decide +kernel
theorem dX3_makesCountsSo_95 : decode cX3_makesCountsSo 95 = .ok (.goto (-56), 3) := by decide +kernel
theorem dX3_makesCountsSo_98 : decode cX3_makesCountsSo 98 = .ok (.iconst 1, 1) := by decide +kernel
theorem dX3_makesCountsSo_99 : decode cX3_makesCountsSo 99 = .ok (.ireturn, 1) := by decide +kernel
theorem dX3_lastCounted_0 : decode cX3_lastCounted 0 = .ok (.iconst (-1), 1) := by decide +kernel
theorem dX3_lastCounted_1 : decode cX3_lastCounted 1 = .ok (.istore_n 1, 1) := by decide +kernel
theorem dX3_lastCounted_2 : decode cX3_lastCounted 2 = .ok (.iconst 0, 1) := by decide +kernel
theorem dX3_lastCounted_3 : decode cX3_lastCounted 3 = .ok (.istore_n 2, 1) := by decide +kernel
theorem dX3_lastCounted_4 : decode cX3_lastCounted 4 = .ok (.iload_n 2, 1) := by decide +kernel
theorem dX3_lastCounted_5 : decode cX3_lastCounted 5 = .ok (.aload_n 0, 1) := by decide +kernel
theorem dX3_lastCounted_6 : decode cX3_lastCounted 6 = .ok (.getfield 84, 3) := by decide +kernel
theorem dX3_lastCounted_9 : decode cX3_lastCounted 9 = .ok (.if_icmp .ge 20, 3) := by decide +kernel
theorem dX3_lastCounted_12 : decode cX3_lastCounted 12 = .ok (.iload_n 1, 1) := by decide +kernel
theorem dX3_lastCounted_13 : decode cX3_lastCounted 13 = .ok (.aload_n 0, 1) := by decide +kernel
theorem dX3_lastCounted_14 : decode cX3_lastCounted 14 = .ok (.getfield 47, 3) := by decide +kernel
theorem dX3_lastCounted_17 : decode cX3_lastCounted 17 = .ok (.iload_n 2, 1) := by decide +kernel
theorem dX3_lastCounted_18 : decode cX3_lastCounted 18 = .ok (.iaload, 1) := by decide +kernel
theorem dX3_lastCounted_19 : decode cX3_lastCounted 19 = .ok (.invokestatic 226, 3) := by decide +kernel
theorem dX3_lastCounted_22 : decode cX3_lastCounted 22 = .ok (.istore_n 1, 1) := by decide +kernel
theorem dX3_lastCounted_23 : decode cX3_lastCounted 23 = .ok (.iinc 2 1, 3) := by decide +kernel
theorem dX3_lastCounted_26 : decode cX3_lastCounted 26 = .ok (.goto (-22), 3) := by decide +kernel
theorem dX3_lastCounted_29 : decode cX3_lastCounted 29 = .ok (.iload_n 1, 1) := by decide +kernel
theorem dX3_lastCounted_30 : decode cX3_lastCounted 30 = .ok (.ireturn, 1) := by decide +kernel
theorem dX3_isAsCounted_0 : decode cX3_isAsCounted 0 = .ok (.iconst 0, 1) := by decide +kernel
theorem dX3_isAsCounted_1 : decode cX3_isAsCounted 1 = .ok (.istore_n 3, 1) := by decide +kernel
theorem dX3_isAsCounted_2 : decode cX3_isAsCounted 2 = .ok (.iload_n 3, 1) := by decide +kernel
theorem dX3_isAsCounted_3 : decode cX3_isAsCounted 3 = .ok (.aload_n 0, 1) := by decide +kernel
theorem dX3_isAsCounted_4 : decode cX3_isAsCounted 4 = .ok (.getfield 84, 3) := by decide +kernel
theorem dX3_isAsCounted_7 : decode cX3_isAsCounted 7 = .ok (.if_icmp .ge 31, 3) := by decide +kernel
theorem dX3_isAsCounted_10 : decode cX3_isAsCounted 10 = .ok (.aload_n 0, 1) := by decide +kernel
theorem dX3_isAsCounted_11 : decode cX3_isAsCounted 11 = .ok (.getfield 47, 3) := by decide +kernel
theorem dX3_isAsCounted_14 : decode cX3_isAsCounted 14 = .ok (.iload_n 3, 1) := by decide +kernel
theorem dX3_isAsCounted_15 : decode cX3_isAsCounted 15 = .ok (.iaload, 1) := by decide +kernel
theorem dX3_isAsCounted_16 : decode cX3_isAsCounted 16 = .ok (.iload_n 1, 1) := by decide +kernel
theorem dX3_isAsCounted_17 : decode cX3_isAsCounted 17 = .ok (.if_icmp .ne 15, 3) := by decide +kernel
theorem dX3_isAsCounted_20 : decode cX3_isAsCounted 20 = .ok (.aload_n 0, 1) := by decide +kernel
theorem dX3_isAsCounted_21 : decode cX3_isAsCounted 21 = .ok (.getfield 51, 3) := by decide +kernel
theorem dX3_isAsCounted_24 : decode cX3_isAsCounted 24 = .ok (.iload_n 3, 1) := by decide +kernel
theorem dX3_isAsCounted_25 : decode cX3_isAsCounted 25 = .ok (.iaload, 1) := by decide +kernel
theorem dX3_isAsCounted_26 : decode cX3_isAsCounted 26 = .ok (.iload_n 2, 1) := by decide +kernel
theorem dX3_isAsCounted_27 : decode cX3_isAsCounted 27 = .ok (.if_icmp .eq 5, 3) := by decide +kernel
theorem dX3_isAsCounted_30 : decode cX3_isAsCounted 30 = .ok (.iconst 0, 1) := by decide +kernel
theorem dX3_isAsCounted_31 : decode cX3_isAsCounted 31 = .ok (.ireturn, 1) := by decide +kernel
theorem dX3_isAsCounted_32 : decode cX3_isAsCounted 32 = .ok (.iinc 3 1, 3) := by decide +kernel
theorem dX3_isAsCounted_35 : decode cX3_isAsCounted 35 = .ok (.goto (-33), 3) := by decide +kernel
theorem dX3_isAsCounted_38 : decode cX3_isAsCounted 38 = .ok (.iconst 1, 1) := by decide +kernel
theorem dX3_isAsCounted_39 : decode cX3_isAsCounted 39 = .ok (.ireturn, 1) := by decide +kernel
theorem dX3_odds_0 : decode cX3_odds 0 = .ok (.iload_n 1, 1) := by decide +kernel
theorem dX3_odds_1 : decode cX3_odds 1 = .ok (.ifCond .lt 18, 3) := by decide +kernel
theorem dX3_odds_4 : decode cX3_odds 4 = .ok (.iload_n 1, 1) := by decide +kernel
theorem dX3_odds_5 : decode cX3_odds 5 = .ok (.bipush 10, 2) := by decide +kernel
theorem dX3_odds_7 : decode cX3_odds 7 = .ok (.if_icmp .gt 12, 3) := by decide +kernel
theorem dX3_odds_10 : decode cX3_odds 10 = .ok (.iload_n 2, 1) := by decide +kernel
theorem dX3_odds_11 : decode cX3_odds 11 = .ok (.ifCond .lt 8, 3) := by decide +kernel
theorem dX3_odds_14 : decode cX3_odds 14 = .ok (.iload_n 2, 1) := by decide +kernel
theorem dX3_odds_15 : decode cX3_odds 15 = .ok (.iconst 1, 1) := by decide +kernel
theorem dX3_odds_16 : decode cX3_odds 16 = .ok (.if_icmp .le 5, 3) := by decide +kernel
theorem dX3_odds_19 : decode cX3_odds 19 = .ok (.iconst (-1), 1) := by decide +kernel
theorem dX3_odds_20 : decode cX3_odds 20 = .ok (.ireturn, 1) := by decide +kernel
theorem dX3_odds_21 : decode cX3_odds 21 = .ok (.aload_n 0, 1) := by decide +kernel
theorem dX3_odds_22 : decode cX3_odds 22 = .ok (.getfield 19, 3) := by decide +kernel
theorem dX3_odds_25 : decode cX3_odds 25 = .ok (.aload_n 0, 1) := by decide +kernel
theorem dX3_odds_26 : decode cX3_odds 26 = .ok (.getfield 29, 3) := by decide +kernel
theorem dX3_odds_29 : decode cX3_odds 29 = .ok (.getfield 133, 3) := by decide +kernel
theorem dX3_odds_32 : decode cX3_odds 32 = .ok (.invokevirtual 256, 3) := by decide +kernel
theorem dX3_odds_35 : decode cX3_odds 35 = .ok (.istore_n 3, 1) := by decide +kernel
theorem dX3_odds_36 : decode cX3_odds 36 = .ok (.iload_n 3, 1) := by decide +kernel
theorem dX3_odds_37 : decode cX3_odds 37 = .ok (.invokestatic 179, 3) := by decide +kernel
theorem dX3_odds_40 : decode cX3_odds 40 = .ok (.istore 4, 2) := by decide +kernel
theorem dX3_odds_42 : decode cX3_odds 42 = .ok (.iconst 0, 1) := by decide +kernel
theorem dX3_odds_43 : decode cX3_odds 43 = .ok (.istore 5, 2) := by decide +kernel
theorem dX3_odds_45 : decode cX3_odds 45 = .ok (.aload_n 0, 1) := by decide +kernel
theorem dX3_odds_46 : decode cX3_odds 46 = .ok (.getfield 19, 3) := by decide +kernel
theorem dX3_odds_49 : decode cX3_odds 49 = .ok (.aload_n 0, 1) := by decide +kernel
theorem dX3_odds_50 : decode cX3_odds 50 = .ok (.getfield 29, 3) := by decide +kernel
theorem dX3_odds_53 : decode cX3_odds 53 = .ok (.iconst (-1), 1) := by decide +kernel
theorem dX3_odds_54 : decode cX3_odds 54 = .ok (.invokevirtual 259, 3) := by decide +kernel
theorem dX3_odds_57 : decode cX3_odds 57 = .ok (.istore 6, 2) := by decide +kernel
theorem dX3_odds_59 : decode cX3_odds 59 = .ok (.iconst 0, 1) := by decide +kernel
theorem dX3_odds_60 : decode cX3_odds 60 = .ok (.istore 7, 2) := by decide +kernel
theorem dX3_odds_62 : decode cX3_odds 62 = .ok (.iload 7, 2) := by decide +kernel
theorem dX3_odds_64 : decode cX3_odds 64 = .ok (.bipush 64, 2) := by decide +kernel
theorem dX3_odds_66 : decode cX3_odds 66 = .ok (.if_icmp .ge 70, 3) := by decide +kernel
theorem dX3_odds_69 : decode cX3_odds 69 = .ok (.iload 7, 2) := by decide +kernel
theorem dX3_odds_71 : decode cX3_odds 71 = .ok (.iload_n 3, 1) := by decide +kernel
theorem dX3_odds_72 : decode cX3_odds 72 = .ok (.iconst (-1), 1) := by decide +kernel
theorem dX3_odds_73 : decode cX3_odds 73 = .ok (.ixor, 1) := by decide +kernel
theorem dX3_odds_74 : decode cX3_odds 74 = .ok (.iand, 1) := by decide +kernel
theorem dX3_odds_75 : decode cX3_odds 75 = .ok (.ifCond .ne 55, 3) := by decide +kernel
theorem dX3_odds_78 : decode cX3_odds 78 = .ok (.aload_n 0, 1) := by decide +kernel
theorem dX3_odds_79 : decode cX3_odds 79 = .ok (.iload 6, 2) := by decide +kernel
theorem dX3_odds_81 : decode cX3_odds 81 = .ok (.aload_n 0, 1) := by decide +kernel
theorem dX3_odds_82 : decode cX3_odds 82 = .ok (.getfield 19, 3) := by decide +kernel
theorem dX3_odds_85 : decode cX3_odds 85 = .ok (.iload 7, 2) := by decide +kernel
theorem dX3_odds_87 : decode cX3_odds 87 = .ok (.invokevirtual 262, 3) := by decide +kernel
theorem dX3_odds_90 : decode cX3_odds 90 = .ok (.iconst (-1), 1) := by decide +kernel
theorem dX3_odds_91 : decode cX3_odds 91 = .ok (.ixor, 1) := by decide +kernel
theorem dX3_odds_92 : decode cX3_odds 92 = .ok (.iand, 1) := by decide +kernel
theorem dX3_odds_93 : decode cX3_odds 93 = .ok (.invokevirtual 191, 3) := by decide +kernel
theorem dX3_odds_96 : decode cX3_odds 96 = .ok (.ifCond .ne 34, 3) := by decide +kernel
theorem dX3_odds_99 : decode cX3_odds 99 = .ok (.iload 7, 2) := by decide +kernel
theorem dX3_odds_101 : decode cX3_odds 101 = .ok (.invokestatic 179, 3) := by decide +kernel
theorem dX3_odds_104 : decode cX3_odds 104 = .ok (.istore 8, 2) := by decide +kernel
theorem dX3_odds_106 : decode cX3_odds 106 = .ok (.iload 5, 2) := by decide +kernel
theorem dX3_odds_108 : decode cX3_odds 108 = .ok (.iload_n 1, 1) := by decide +kernel
theorem dX3_odds_109 : decode cX3_odds 109 = .ok (.iload 8, 2) := by decide +kernel
theorem dX3_odds_111 : decode cX3_odds 111 = .ok (.invokestatic 265, 3) := by decide +kernel
theorem dX3_odds_114 : decode cX3_odds 114 = .ok (.bipush 10, 2) := by decide +kernel
theorem dX3_odds_116 : decode cX3_odds 116 = .ok (.iload_n 1, 1) := by decide +kernel
theorem dX3_odds_117 : decode cX3_odds 117 = .ok (.isub, 1) := by decide +kernel
theorem dX3_odds_118 : decode cX3_odds 118 = .ok (.iload 4, 2) := by decide +kernel
theorem dX3_odds_120 : decode cX3_odds 120 = .ok (.iload 8, 2) := by decide +kernel
theorem dX3_odds_122 : decode cX3_odds 122 = .ok (.isub, 1) := by decide +kernel
theorem dX3_odds_123 : decode cX3_odds 123 = .ok (.invokestatic 265, 3) := by decide +kernel
theorem dX3_odds_126 : decode cX3_odds 126 = .ok (.imul, 1) := by decide +kernel
theorem dX3_odds_127 : decode cX3_odds 127 = .ok (.iadd, 1) := by decide +kernel
theorem dX3_odds_128 : decode cX3_odds 128 = .ok (.istore 5, 2) := by decide +kernel
theorem dX3_odds_130 : decode cX3_odds 130 = .ok (.iinc 7 1, 3) := by decide +kernel
theorem dX3_odds_133 : decode cX3_odds 133 = .ok (.goto (-71), 3) := by decide +kernel
theorem dX3_odds_136 : decode cX3_odds 136 = .ok (.iload 5, 2) := by decide +kernel
theorem dX3_odds_138 : decode cX3_odds 138 = .ok (.iload 4, 2) := by decide +kernel
theorem dX3_odds_140 : decode cX3_odds 140 = .ok (.iload_n 2, 1) := by decide +kernel
theorem dX3_odds_141 : decode cX3_odds 141 = .ok (.invokestatic 268, 3) := by decide +kernel
theorem dX3_odds_144 : decode cX3_odds 144 = .ok (.ireturn, 1) := by decide +kernel
theorem dX3_power_0 : decode cX3_power 0 = .ok (.iconst 1, 1) := by decide +kernel
theorem dX3_power_1 : decode cX3_power 1 = .ok (.istore_n 2, 1) := by decide +kernel
theorem dX3_power_2 : decode cX3_power 2 = .ok (.iconst 0, 1) := by decide +kernel
theorem dX3_power_3 : decode cX3_power 3 = .ok (.istore_n 3, 1) := by decide +kernel
theorem dX3_power_4 : decode cX3_power 4 = .ok (.iload_n 3, 1) := by decide +kernel
theorem dX3_power_5 : decode cX3_power 5 = .ok (.iload_n 1, 1) := by decide +kernel
theorem dX3_power_6 : decode cX3_power 6 = .ok (.if_icmp .ge 13, 3) := by decide +kernel
theorem dX3_power_9 : decode cX3_power 9 = .ok (.iload_n 2, 1) := by decide +kernel
theorem dX3_power_10 : decode cX3_power 10 = .ok (.iload_n 0, 1) := by decide +kernel
theorem dX3_power_11 : decode cX3_power 11 = .ok (.imul, 1) := by decide +kernel
theorem dX3_power_12 : decode cX3_power 12 = .ok (.istore_n 2, 1) := by decide +kernel
theorem dX3_power_13 : decode cX3_power 13 = .ok (.iinc 3 1, 3) := by decide +kernel
theorem dX3_power_16 : decode cX3_power 16 = .ok (.goto (-12), 3) := by decide +kernel
theorem dX3_power_19 : decode cX3_power 19 = .ok (.iload_n 2, 1) := by decide +kernel
theorem dX3_power_20 : decode cX3_power 20 = .ok (.ireturn, 1) := by decide +kernel
theorem dX3_inLeastTerms_0 : decode cX3_inLeastTerms 0 = .ok (.iload_n 0, 1) := by decide +kernel
theorem dX3_inLeastTerms_1 : decode cX3_inLeastTerms 1 = .ok (.istore_n 3, 1) := by decide +kernel
theorem dX3_inLeastTerms_2 : decode cX3_inLeastTerms 2 = .ok (.bipush 10, 2) := by decide +kernel
theorem dX3_inLeastTerms_4 : decode cX3_inLeastTerms 4 = .ok (.iload_n 1, 1) := by decide +kernel
theorem dX3_inLeastTerms_5 : decode cX3_inLeastTerms 5 = .ok (.invokestatic 265, 3) := by decide +kernel
theorem dX3_inLeastTerms_8 : decode cX3_inLeastTerms 8 = .ok (.istore 4, 2) := by decide +kernel
theorem dX3_inLeastTerms_10 : decode cX3_inLeastTerms 10 = .ok (.iconst 0, 1) := by decide +kernel
theorem dX3_inLeastTerms_11 : decode cX3_inLeastTerms 11 = .ok (.istore 5, 2) := by decide +kernel
theorem dX3_inLeastTerms_13 : decode cX3_inLeastTerms 13 = .ok (.iload 5, 2) := by decide +kernel
theorem dX3_inLeastTerms_15 : decode cX3_inLeastTerms 15 = .ok (.iload_n 1, 1) := by decide +kernel
theorem dX3_inLeastTerms_16 : decode cX3_inLeastTerms 16 = .ok (.if_icmp .ge 25, 3) := by decide +kernel
theorem dX3_inLeastTerms_19 : decode cX3_inLeastTerms 19 = .ok (.iload_n 3, 1) := by decide +kernel
theorem dX3_inLeastTerms_20 : decode cX3_inLeastTerms 20 = .ok (.iconst 2, 1) := by decide +kernel
theorem dX3_inLeastTerms_21 : decode cX3_inLeastTerms 21 = .ok (.irem, 1) := by decide +kernel
theorem dX3_inLeastTerms_22 : decode cX3_inLeastTerms 22 = .ok (.ifCond .ne 13, 3) := by decide +kernel
theorem dX3_inLeastTerms_25 : decode cX3_inLeastTerms 25 = .ok (.iload_n 3, 1) := by decide +kernel
theorem dX3_inLeastTerms_26 : decode cX3_inLeastTerms 26 = .ok (.iconst 2, 1) := by decide +kernel
theorem dX3_inLeastTerms_27 : decode cX3_inLeastTerms 27 = .ok (.idiv, 1) := by decide +kernel
theorem dX3_inLeastTerms_28 : decode cX3_inLeastTerms 28 = .ok (.istore_n 3, 1) := by decide +kernel
theorem dX3_inLeastTerms_29 : decode cX3_inLeastTerms 29 = .ok (.iload 4, 2) := by decide +kernel
theorem dX3_inLeastTerms_31 : decode cX3_inLeastTerms 31 = .ok (.iconst 2, 1) := by decide +kernel
theorem dX3_inLeastTerms_32 : decode cX3_inLeastTerms 32 = .ok (.idiv, 1) := by decide +kernel
theorem dX3_inLeastTerms_33 : decode cX3_inLeastTerms 33 = .ok (.istore 4, 2) := by decide +kernel
theorem dX3_inLeastTerms_35 : decode cX3_inLeastTerms 35 = .ok (.iinc 5 1, 3) := by decide +kernel
theorem dX3_inLeastTerms_38 : decode cX3_inLeastTerms 38 = .ok (.goto (-25), 3) := by decide +kernel
theorem dX3_inLeastTerms_41 : decode cX3_inLeastTerms 41 = .ok (.iconst 0, 1) := by decide +kernel
theorem dX3_inLeastTerms_42 : decode cX3_inLeastTerms 42 = .ok (.istore 5, 2) := by decide +kernel
theorem dX3_inLeastTerms_44 : decode cX3_inLeastTerms 44 = .ok (.iload 5, 2) := by decide +kernel
theorem dX3_inLeastTerms_46 : decode cX3_inLeastTerms 46 = .ok (.iload_n 1, 1) := by decide +kernel
theorem dX3_inLeastTerms_47 : decode cX3_inLeastTerms 47 = .ok (.if_icmp .ge 25, 3) := by decide +kernel
theorem dX3_inLeastTerms_50 : decode cX3_inLeastTerms 50 = .ok (.iload_n 3, 1) := by decide +kernel
theorem dX3_inLeastTerms_51 : decode cX3_inLeastTerms 51 = .ok (.iconst 5, 1) := by decide +kernel
theorem dX3_inLeastTerms_52 : decode cX3_inLeastTerms 52 = .ok (.irem, 1) := by decide +kernel
theorem dX3_inLeastTerms_53 : decode cX3_inLeastTerms 53 = .ok (.ifCond .ne 13, 3) := by decide +kernel
theorem dX3_inLeastTerms_56 : decode cX3_inLeastTerms 56 = .ok (.iload_n 3, 1) := by decide +kernel
theorem dX3_inLeastTerms_57 : decode cX3_inLeastTerms 57 = .ok (.iconst 5, 1) := by decide +kernel
theorem dX3_inLeastTerms_58 : decode cX3_inLeastTerms 58 = .ok (.idiv, 1) := by decide +kernel
theorem dX3_inLeastTerms_59 : decode cX3_inLeastTerms 59 = .ok (.istore_n 3, 1) := by decide +kernel
theorem dX3_inLeastTerms_60 : decode cX3_inLeastTerms 60 = .ok (.iload 4, 2) := by decide +kernel
theorem dX3_inLeastTerms_62 : decode cX3_inLeastTerms 62 = .ok (.iconst 5, 1) := by decide +kernel
theorem dX3_inLeastTerms_63 : decode cX3_inLeastTerms 63 = .ok (.idiv, 1) := by decide +kernel
theorem dX3_inLeastTerms_64 : decode cX3_inLeastTerms 64 = .ok (.istore 4, 2) := by decide +kernel
theorem dX3_inLeastTerms_66 : decode cX3_inLeastTerms 66 = .ok (.iinc 5 1, 3) := by decide +kernel
theorem dX3_inLeastTerms_69 : decode cX3_inLeastTerms 69 = .ok (.goto (-25), 3) := by decide +kernel
theorem dX3_inLeastTerms_72 : decode cX3_inLeastTerms 72 = .ok (.iload_n 2, 1) := by decide +kernel
theorem dX3_inLeastTerms_73 : decode cX3_inLeastTerms 73 = .ok (.ifCond .ne 7, 3) := by decide +kernel
theorem dX3_inLeastTerms_76 : decode cX3_inLeastTerms 76 = .ok (.iload_n 3, 1) := by decide +kernel
theorem dX3_inLeastTerms_77 : decode cX3_inLeastTerms 77 = .ok (.goto 5, 3) := by decide +kernel
theorem dX3_inLeastTerms_80 : decode cX3_inLeastTerms 80 = .ok (.iload 4, 2) := by decide +kernel
theorem dX3_inLeastTerms_82 : decode cX3_inLeastTerms 82 = .ok (.ireturn, 1) := by decide +kernel
theorem dX3_rate_0 : decode cX3_rate 0 = .ok (.aload_n 0, 1) := by decide +kernel
theorem dX3_rate_1 : decode cX3_rate 1 = .ok (.iload_n 2, 1) := by decide +kernel
theorem dX3_rate_2 : decode cX3_rate 2 = .ok (.invokevirtual 97, 3) := by decide +kernel
theorem dX3_rate_5 : decode cX3_rate 5 = .ok (.ifCond .ne 7, 3) := by decide +kernel
theorem dX3_rate_8 : decode cX3_rate 8 = .ok (.ldc_w 271, 3) := by decide +kernel
theorem dX3_rate_11 : decode cX3_rate 11 = .ok (.ireturn, 1) := by decide +kernel
theorem dX3_rate_12 : decode cX3_rate 12 = .ok (.iload_n 1, 1) := by decide +kernel
theorem dX3_rate_13 : decode cX3_rate 13 = .ok (.tableswitch 75 0 5 #[39, 45, 51, 57, 63, 69], 39) := by decide +kernel
theorem dX3_rate_52 : decode cX3_rate 52 = .ok (.aload_n 0, 1) := by decide +kernel
theorem dX3_rate_53 : decode cX3_rate 53 = .ok (.iload_n 2, 1) := by decide +kernel
theorem dX3_rate_54 : decode cX3_rate 54 = .ok (.invokevirtual 272, 3) := by decide +kernel
theorem dX3_rate_57 : decode cX3_rate 57 = .ok (.ireturn, 1) := by decide +kernel
theorem dX3_rate_58 : decode cX3_rate 58 = .ok (.aload_n 0, 1) := by decide +kernel
theorem dX3_rate_59 : decode cX3_rate 59 = .ok (.iload_n 2, 1) := by decide +kernel
theorem dX3_rate_60 : decode cX3_rate 60 = .ok (.invokevirtual 275, 3) := by decide +kernel
theorem dX3_rate_63 : decode cX3_rate 63 = .ok (.ireturn, 1) := by decide +kernel
theorem dX3_rate_64 : decode cX3_rate 64 = .ok (.aload_n 0, 1) := by decide +kernel
theorem dX3_rate_65 : decode cX3_rate 65 = .ok (.iload_n 2, 1) := by decide +kernel
theorem dX3_rate_66 : decode cX3_rate 66 = .ok (.invokevirtual 278, 3) := by decide +kernel
theorem dX3_rate_69 : decode cX3_rate 69 = .ok (.ireturn, 1) := by decide +kernel
theorem dX3_rate_70 : decode cX3_rate 70 = .ok (.aload_n 0, 1) := by decide +kernel
theorem dX3_rate_71 : decode cX3_rate 71 = .ok (.iload_n 2, 1) := by decide +kernel
theorem dX3_rate_72 : decode cX3_rate 72 = .ok (.invokevirtual 281, 3) := by decide +kernel
theorem dX3_rate_75 : decode cX3_rate 75 = .ok (.ireturn, 1) := by decide +kernel
theorem dX3_rate_76 : decode cX3_rate 76 = .ok (.aload_n 0, 1) := by decide +kernel
theorem dX3_rate_77 : decode cX3_rate 77 = .ok (.iload_n 2, 1) := by decide +kernel
theorem dX3_rate_78 : decode cX3_rate 78 = .ok (.invokevirtual 284, 3) := by decide +kernel
theorem dX3_rate_81 : decode cX3_rate 81 = .ok (.ireturn, 1) := by decide +kernel
theorem dX3_rate_82 : decode cX3_rate 82 = .ok (.aload_n 0, 1) := by decide +kernel
theorem dX3_rate_83 : decode cX3_rate 83 = .ok (.iload_n 2, 1) := by decide +kernel
theorem dX3_rate_84 : decode cX3_rate 84 = .ok (.invokevirtual 287, 3) := by decide +kernel
theorem dX3_rate_87 : decode cX3_rate 87 = .ok (.ireturn, 1) := by decide +kernel
theorem dX3_rate_88 : decode cX3_rate 88 = .ok (.ldc_w 271, 3) := by decide +kernel
theorem dX3_rate_91 : decode cX3_rate 91 = .ok (.ireturn, 1) := by decide +kernel
theorem dX3_asCitizen_0 : decode cX3_asCitizen 0 = .ok (.aload_n 0, 1) := by decide +kernel
theorem dX3_asCitizen_1 : decode cX3_asCitizen 1 = .ok (.dup, 1) := by decide +kernel
theorem dX3_asCitizen_2 : decode cX3_asCitizen 2 = .ok (.getfield 290, 3) := by decide +kernel
theorem dX3_asCitizen_5 : decode cX3_asCitizen 5 = .ok (.lconst 1, 1) := by decide +kernel
theorem dX3_asCitizen_6 : decode cX3_asCitizen 6 = .ok (.ladd, 1) := by decide +kernel
theorem dX3_asCitizen_7 : decode cX3_asCitizen 7 = .ok (.putfield 290, 3) := by decide +kernel
theorem dX3_asCitizen_10 : decode cX3_asCitizen 10 = .ok (.aload_n 0, 1) := by decide +kernel
theorem dX3_asCitizen_11 : decode cX3_asCitizen 11 = .ok (.getfield 29, 3) := by decide +kernel
theorem dX3_asCitizen_14 : decode cX3_asCitizen 14 = .ok (.getfield 103, 3) := by decide +kernel
theorem dX3_asCitizen_17 : decode cX3_asCitizen 17 = .ok (.iload_n 1, 1) := by decide +kernel
theorem dX3_asCitizen_18 : decode cX3_asCitizen 18 = .ok (.iaload, 1) := by decide +kernel
theorem dX3_asCitizen_19 : decode cX3_asCitizen 19 = .ok (.ireturn, 1) := by decide +kernel
theorem dX3_asBaker_0 : decode cX3_asBaker 0 = .ok (.aload_n 0, 1) := by decide +kernel
theorem dX3_asBaker_1 : decode cX3_asBaker 1 = .ok (.dup, 1) := by decide +kernel
theorem dX3_asBaker_2 : decode cX3_asBaker 2 = .ok (.getfield 290, 3) := by decide +kernel
theorem dX3_asBaker_5 : decode cX3_asBaker 5 = .ok (.ldc2_w 294, 3) := by decide +kernel
theorem dX3_asBaker_8 : decode cX3_asBaker 8 = .ok (.ladd, 1) := by decide +kernel
theorem dX3_asBaker_9 : decode cX3_asBaker 9 = .ok (.putfield 290, 3) := by decide +kernel
theorem dX3_asBaker_12 : decode cX3_asBaker 12 = .ok (.aload_n 0, 1) := by decide +kernel
theorem dX3_asBaker_13 : decode cX3_asBaker 13 = .ok (.iload_n 1, 1) := by decide +kernel
theorem dX3_asBaker_14 : decode cX3_asBaker 14 = .ok (.invokevirtual 272, 3) := by decide +kernel
theorem dX3_asBaker_17 : decode cX3_asBaker 17 = .ok (.aload_n 0, 1) := by decide +kernel
theorem dX3_asBaker_18 : decode cX3_asBaker 18 = .ok (.getfield 19, 3) := by decide +kernel
theorem dX3_asBaker_21 : decode cX3_asBaker 21 = .ok (.getfield 106, 3) := by decide +kernel
theorem dX3_asBaker_24 : decode cX3_asBaker 24 = .ok (.iload_n 1, 1) := by decide +kernel
theorem dX3_asBaker_25 : decode cX3_asBaker 25 = .ok (.iaload, 1) := by decide +kernel
theorem dX3_asBaker_26 : decode cX3_asBaker 26 = .ok (.invokestatic 179, 3) := by decide +kernel
theorem dX3_asBaker_29 : decode cX3_asBaker 29 = .ok (.iadd, 1) := by decide +kernel
theorem dX3_asBaker_30 : decode cX3_asBaker 30 = .ok (.ireturn, 1) := by decide +kernel
theorem dX3_asDeputy_0 : decode cX3_asDeputy 0 = .ok (.aload_n 0, 1) := by decide +kernel
theorem dX3_asDeputy_1 : decode cX3_asDeputy 1 = .ok (.dup, 1) := by decide +kernel
theorem dX3_asDeputy_2 : decode cX3_asDeputy 2 = .ok (.getfield 290, 3) := by decide +kernel
theorem dX3_asDeputy_5 : decode cX3_asDeputy 5 = .ok (.ldc2_w 296, 3) := by decide +kernel
theorem dX3_asDeputy_8 : decode cX3_asDeputy 8 = .ok (.ladd, 1) := by decide +kernel
theorem dX3_asDeputy_9 : decode cX3_asDeputy 9 = .ok (.putfield 290, 3) := by decide +kernel
theorem dX3_asDeputy_12 : decode cX3_asDeputy 12 = .ok (.aload_n 0, 1) := by decide +kernel
theorem dX3_asDeputy_13 : decode cX3_asDeputy 13 = .ok (.iload_n 1, 1) := by decide +kernel
theorem dX3_asDeputy_14 : decode cX3_asDeputy 14 = .ok (.invokevirtual 272, 3) := by decide +kernel
theorem dX3_asDeputy_17 : decode cX3_asDeputy 17 = .ok (.aload_n 0, 1) := by decide +kernel
theorem dX3_asDeputy_18 : decode cX3_asDeputy 18 = .ok (.getfield 19, 3) := by decide +kernel
theorem dX3_asDeputy_21 : decode cX3_asDeputy 21 = .ok (.getfield 109, 3) := by decide +kernel
theorem dX3_asDeputy_24 : decode cX3_asDeputy 24 = .ok (.iload_n 1, 1) := by decide +kernel
theorem dX3_asDeputy_25 : decode cX3_asDeputy 25 = .ok (.iaload, 1) := by decide +kernel
theorem dX3_asDeputy_26 : decode cX3_asDeputy 26 = .ok (.isub, 1) := by decide +kernel
theorem dX3_asDeputy_27 : decode cX3_asDeputy 27 = .ok (.ireturn, 1) := by decide +kernel
theorem dX3_asGuard_0 : decode cX3_asGuard 0 = .ok (.aload_n 0, 1) := by decide +kernel
theorem dX3_asGuard_1 : decode cX3_asGuard 1 = .ok (.dup, 1) := by decide +kernel
theorem dX3_asGuard_2 : decode cX3_asGuard 2 = .ok (.getfield 290, 3) := by decide +kernel
theorem dX3_asGuard_5 : decode cX3_asGuard 5 = .ok (.ldc2_w 298, 3) := by decide +kernel
theorem dX3_asGuard_8 : decode cX3_asGuard 8 = .ok (.ladd, 1) := by decide +kernel
theorem dX3_asGuard_9 : decode cX3_asGuard 9 = .ok (.putfield 290, 3) := by decide +kernel
theorem dX3_asGuard_12 : decode cX3_asGuard 12 = .ok (.iconst 2, 1) := by decide +kernel
theorem dX3_asGuard_13 : decode cX3_asGuard 13 = .ok (.aload_n 0, 1) := by decide +kernel
theorem dX3_asGuard_14 : decode cX3_asGuard 14 = .ok (.iload_n 1, 1) := by decide +kernel
theorem dX3_asGuard_15 : decode cX3_asGuard 15 = .ok (.invokevirtual 275, 3) := by decide +kernel
theorem dX3_asGuard_18 : decode cX3_asGuard 18 = .ok (.imul, 1) := by decide +kernel
theorem dX3_asGuard_19 : decode cX3_asGuard 19 = .ok (.ireturn, 1) := by decide +kernel
theorem dX3_asTwin_0 : decode cX3_asTwin 0 = .ok (.aload_n 0, 1) := by decide +kernel
theorem dX3_asTwin_1 : decode cX3_asTwin 1 = .ok (.dup, 1) := by decide +kernel
theorem dX3_asTwin_2 : decode cX3_asTwin 2 = .ok (.getfield 290, 3) := by decide +kernel
theorem dX3_asTwin_5 : decode cX3_asTwin 5 = .ok (.ldc2_w 300, 3) := by decide +kernel
theorem dX3_asTwin_8 : decode cX3_asTwin 8 = .ok (.ladd, 1) := by decide +kernel
theorem dX3_asTwin_9 : decode cX3_asTwin 9 = .ok (.putfield 290, 3) := by decide +kernel
theorem dX3_asTwin_12 : decode cX3_asTwin 12 = .ok (.aload_n 0, 1) := by decide +kernel
theorem dX3_asTwin_13 : decode cX3_asTwin 13 = .ok (.iload_n 1, 1) := by decide +kernel
theorem dX3_asTwin_14 : decode cX3_asTwin 14 = .ok (.invokevirtual 278, 3) := by decide +kernel
theorem dX3_asTwin_17 : decode cX3_asTwin 17 = .ok (.iload_n 1, 1) := by decide +kernel
theorem dX3_asTwin_18 : decode cX3_asTwin 18 = .ok (.iadd, 1) := by decide +kernel
theorem dX3_asTwin_19 : decode cX3_asTwin 19 = .ok (.ireturn, 1) := by decide +kernel
theorem dX3_asVeteran_0 : decode cX3_asVeteran 0 = .ok (.aload_n 0, 1) := by decide +kernel
theorem dX3_asVeteran_1 : decode cX3_asVeteran 1 = .ok (.dup, 1) := by decide +kernel
theorem dX3_asVeteran_2 : decode cX3_asVeteran 2 = .ok (.getfield 290, 3) := by decide +kernel
theorem dX3_asVeteran_5 : decode cX3_asVeteran 5 = .ok (.ldc2_w 302, 3) := by decide +kernel
theorem dX3_asVeteran_8 : decode cX3_asVeteran 8 = .ok (.ladd, 1) := by decide +kernel
theorem dX3_asVeteran_9 : decode cX3_asVeteran 9 = .ok (.putfield 290, 3) := by decide +kernel
theorem dX3_asVeteran_12 : decode cX3_asVeteran 12 = .ok (.aload_n 0, 1) := by decide +kernel
theorem dX3_asVeteran_13 : decode cX3_asVeteran 13 = .ok (.iload_n 1, 1) := by decide +kernel
theorem dX3_asVeteran_14 : decode cX3_asVeteran 14 = .ok (.invokevirtual 272, 3) := by decide +kernel
theorem dX3_asVeteran_17 : decode cX3_asVeteran 17 = .ok (.aload_n 0, 1) := by decide +kernel
theorem dX3_asVeteran_18 : decode cX3_asVeteran 18 = .ok (.getfield 29, 3) := by decide +kernel
theorem dX3_asVeteran_21 : decode cX3_asVeteran 21 = .ok (.getfield 115, 3) := by decide +kernel
theorem dX3_asVeteran_24 : decode cX3_asVeteran 24 = .ok (.iload_n 1, 1) := by decide +kernel
theorem dX3_asVeteran_25 : decode cX3_asVeteran 25 = .ok (.iaload, 1) := by decide +kernel
theorem dX3_asVeteran_26 : decode cX3_asVeteran 26 = .ok (.iadd, 1) := by decide +kernel
theorem dX3_asVeteran_27 : decode cX3_asVeteran 27 = .ok (.ireturn, 1) := by decide +kernel
theorem dX3_keep_0 : decode cX3_keep 0 = .ok (.iload_n 1, 1) := by decide +kernel
theorem dX3_keep_1 : decode cX3_keep 1 = .ok (.ifCond .lt 8, 3) := by decide +kernel
theorem dX3_keep_4 : decode cX3_keep 4 = .ok (.iload_n 1, 1) := by decide +kernel
theorem dX3_keep_5 : decode cX3_keep 5 = .ok (.iconst 2, 1) := by decide +kernel
theorem dX3_keep_6 : decode cX3_keep 6 = .ok (.if_icmp .lt 5, 3) := by decide +kernel
theorem dX3_keep_9 : decode cX3_keep 9 = .ok (.iconst (-1), 1) := by decide +kernel
theorem dX3_keep_10 : decode cX3_keep 10 = .ok (.ireturn, 1) := by decide +kernel
theorem dX3_keep_11 : decode cX3_keep 11 = .ok (.aload_n 0, 1) := by decide +kernel
theorem dX3_keep_12 : decode cX3_keep 12 = .ok (.getfield 40, 3) := by decide +kernel
theorem dX3_keep_15 : decode cX3_keep 15 = .ok (.iload_n 1, 1) := by decide +kernel
theorem dX3_keep_16 : decode cX3_keep 16 = .ok (.aaload, 1) := by decide +kernel
theorem dX3_keep_17 : decode cX3_keep 17 = .ok (.aload_n 0, 1) := by decide +kernel
theorem dX3_keep_18 : decode cX3_keep 18 = .ok (.getfield 29, 3) := by decide +kernel
theorem dX3_keep_21 : decode cX3_keep 21 = .ok (.invokevirtual 162, 3) := by decide +kernel
theorem dX3_keep_24 : decode cX3_keep 24 = .ok (.aload_n 0, 1) := by decide +kernel
theorem dX3_keep_25 : decode cX3_keep 25 = .ok (.getfield 43, 3) := by decide +kernel
theorem dX3_keep_28 : decode cX3_keep 28 = .ok (.iload_n 1, 1) := by decide +kernel
theorem dX3_keep_29 : decode cX3_keep 29 = .ok (.iconst 1, 1) := by decide +kernel
theorem dX3_keep_30 : decode cX3_keep 30 = .ok (.bastore, 1) := by decide +kernel
theorem dX3_keep_31 : decode cX3_keep 31 = .ok (.aload_n 0, 1) := by decide +kernel
theorem dX3_keep_32 : decode cX3_keep 32 = .ok (.getfield 29, 3) := by decide +kernel
theorem dX3_keep_35 : decode cX3_keep 35 = .ok (.getfield 130, 3) := by decide +kernel
theorem dX3_keep_38 : decode cX3_keep 38 = .ok (.ireturn, 1) := by decide +kernel
theorem dX3_back_0 : decode cX3_back 0 = .ok (.iload_n 1, 1) := by decide +kernel
theorem dX3_back_1 : decode cX3_back 1 = .ok (.ifCond .lt 8, 3) := by decide +kernel
theorem dX3_back_4 : decode cX3_back 4 = .ok (.iload_n 1, 1) := by decide +kernel
theorem dX3_back_5 : decode cX3_back 5 = .ok (.iconst 2, 1) := by decide +kernel
theorem dX3_back_6 : decode cX3_back 6 = .ok (.if_icmp .lt 5, 3) := by decide +kernel
theorem dX3_back_9 : decode cX3_back 9 = .ok (.iconst (-1), 1) := by decide +kernel
theorem dX3_back_10 : decode cX3_back 10 = .ok (.ireturn, 1) := by decide +kernel
theorem dX3_back_11 : decode cX3_back 11 = .ok (.aload_n 0, 1) := by decide +kernel
theorem dX3_back_12 : decode cX3_back 12 = .ok (.getfield 43, 3) := by decide +kernel
theorem dX3_back_15 : decode cX3_back 15 = .ok (.iload_n 1, 1) := by decide +kernel
theorem dX3_back_16 : decode cX3_back 16 = .ok (.baload, 1) := by decide +kernel
theorem dX3_back_17 : decode cX3_back 17 = .ok (.ifCond .ne 6, 3) := by decide +kernel
theorem dX3_back_20 : decode cX3_back 20 = .ok (.bipush (-2), 2) := by decide +kernel
theorem dX3_back_22 : decode cX3_back 22 = .ok (.ireturn, 1) := by decide +kernel
theorem dX3_back_23 : decode cX3_back 23 = .ok (.aload_n 0, 1) := by decide +kernel
theorem dX3_back_24 : decode cX3_back 24 = .ok (.getfield 29, 3) := by decide +kernel
theorem dX3_back_27 : decode cX3_back 27 = .ok (.aload_n 0, 1) := by decide +kernel
theorem dX3_back_28 : decode cX3_back 28 = .ok (.getfield 40, 3) := by decide +kernel
theorem dX3_back_31 : decode cX3_back 31 = .ok (.iload_n 1, 1) := by decide +kernel
theorem dX3_back_32 : decode cX3_back 32 = .ok (.aaload, 1) := by decide +kernel
theorem dX3_back_33 : decode cX3_back 33 = .ok (.invokevirtual 162, 3) := by decide +kernel
theorem dX3_back_36 : decode cX3_back 36 = .ok (.aload_n 0, 1) := by decide +kernel
theorem dX3_back_37 : decode cX3_back 37 = .ok (.iconst 0, 1) := by decide +kernel
theorem dX3_back_38 : decode cX3_back 38 = .ok (.putfield 81, 3) := by decide +kernel
theorem dX3_back_41 : decode cX3_back 41 = .ok (.aload_n 0, 1) := by decide +kernel
theorem dX3_back_42 : decode cX3_back 42 = .ok (.getfield 29, 3) := by decide +kernel
theorem dX3_back_45 : decode cX3_back 45 = .ok (.getfield 130, 3) := by decide +kernel
theorem dX3_back_48 : decode cX3_back 48 = .ok (.ireturn, 1) := by decide +kernel
theorem dX3_count_0 : decode cX3_count 0 = .ok (.iload_n 1, 1) := by decide +kernel
theorem dX3_count_1 : decode cX3_count 1 = .ok (.tableswitch 84 0 5 #[39, 47, 55, 63, 71, 76], 39) := by decide +kernel
theorem dX3_count_40 : decode cX3_count 40 = .ok (.aload_n 0, 1) := by decide +kernel
theorem dX3_count_41 : decode cX3_count 41 = .ok (.getfield 19, 3) := by decide +kernel
theorem dX3_count_44 : decode cX3_count 44 = .ok (.getfield 149, 3) := by decide +kernel
theorem dX3_count_47 : decode cX3_count 47 = .ok (.ireturn, 1) := by decide +kernel
theorem dX3_count_48 : decode cX3_count 48 = .ok (.aload_n 0, 1) := by decide +kernel
theorem dX3_count_49 : decode cX3_count 49 = .ok (.getfield 19, 3) := by decide +kernel
theorem dX3_count_52 : decode cX3_count 52 = .ok (.getfield 185, 3) := by decide +kernel
theorem dX3_count_55 : decode cX3_count 55 = .ok (.ireturn, 1) := by decide +kernel
theorem dX3_count_56 : decode cX3_count 56 = .ok (.aload_n 0, 1) := by decide +kernel
theorem dX3_count_57 : decode cX3_count 57 = .ok (.getfield 19, 3) := by decide +kernel
theorem dX3_count_60 : decode cX3_count 60 = .ok (.getfield 146, 3) := by decide +kernel
theorem dX3_count_63 : decode cX3_count 63 = .ok (.ireturn, 1) := by decide +kernel
theorem dX3_count_64 : decode cX3_count 64 = .ok (.aload_n 0, 1) := by decide +kernel
theorem dX3_count_65 : decode cX3_count 65 = .ok (.getfield 19, 3) := by decide +kernel
theorem dX3_count_68 : decode cX3_count 68 = .ok (.getfield 118, 3) := by decide +kernel
theorem dX3_count_71 : decode cX3_count 71 = .ok (.ireturn, 1) := by decide +kernel
theorem dX3_count_72 : decode cX3_count 72 = .ok (.aload_n 0, 1) := by decide +kernel
theorem dX3_count_73 : decode cX3_count 73 = .ok (.getfield 84, 3) := by decide +kernel
theorem dX3_count_76 : decode cX3_count 76 = .ok (.ireturn, 1) := by decide +kernel
theorem dX3_count_77 : decode cX3_count 77 = .ok (.aload_n 0, 1) := by decide +kernel
theorem dX3_count_78 : decode cX3_count 78 = .ok (.getfield 12, 3) := by decide +kernel
theorem dX3_count_81 : decode cX3_count 81 = .ok (.getfield 73, 3) := by decide +kernel
theorem dX3_count_84 : decode cX3_count 84 = .ok (.ireturn, 1) := by decide +kernel
theorem dX3_count_85 : decode cX3_count 85 = .ok (.iconst (-1), 1) := by decide +kernel
theorem dX3_count_86 : decode cX3_count 86 = .ok (.ireturn, 1) := by decide +kernel
theorem dX3_trace_0 : decode cX3_trace 0 = .ok (.aload_n 0, 1) := by decide +kernel
theorem dX3_trace_1 : decode cX3_trace 1 = .ok (.getfield 290, 3) := by decide +kernel
theorem dX3_trace_4 : decode cX3_trace 4 = .ok (.lreturn, 1) := by decide +kernel
end
section
theorem dX4_init_0 : decode cX4_init 0 = .ok (.aload_n 0, 1) := by decide +kernel
theorem dX4_init_1 : decode cX4_init 1 = .ok (.invokespecial 1, 3) := by decide +kernel
theorem dX4_init_4 : decode cX4_init 4 = .ok (.aload_n 0, 1) := by decide +kernel
theorem dX4_init_5 : decode cX4_init 5 = .ok (.sipush 200, 3) := by decide +kernel
theorem dX4_init_8 : decode cX4_init 8 = .ok (.newarray .int, 2) := by decide +kernel
theorem dX4_init_10 : decode cX4_init 10 = .ok (.putfield 7, 3) := by decide +kernel
theorem dX4_init_13 : decode cX4_init 13 = .ok (.aload_n 0, 1) := by decide +kernel
theorem dX4_init_14 : decode cX4_init 14 = .ok (.bipush 56, 2) := by decide +kernel
theorem dX4_init_16 : decode cX4_init 16 = .ok (.newarray .int, 2) := by decide +kernel
theorem dX4_init_18 : decode cX4_init 18 = .ok (.putfield 13, 3) := by decide +kernel
theorem dX4_init_21 : decode cX4_init 21 = .ok (.aload_n 0, 1) := by decide +kernel
theorem dX4_init_22 : decode cX4_init 22 = .ok (.bipush 56, 2) := by decide +kernel
theorem dX4_init_24 : decode cX4_init 24 = .ok (.newarray .int, 2) := by decide +kernel
theorem dX4_init_26 : decode cX4_init 26 = .ok (.putfield 16, 3) := by decide +kernel
theorem dX4_init_29 : decode cX4_init 29 = .ok (.aload_n 0, 1) := by decide +kernel
theorem dX4_init_30 : decode cX4_init 30 = .ok (.bipush 21, 2) := by decide +kernel
theorem dX4_init_32 : decode cX4_init 32 = .ok (.newarray .int, 2) := by decide +kernel
theorem dX4_init_34 : decode cX4_init 34 = .ok (.putfield 19, 3) := by decide +kernel
theorem dX4_init_37 : decode cX4_init 37 = .ok (.aload_n 0, 1) := by decide +kernel
theorem dX4_init_38 : decode cX4_init 38 = .ok (.sipush 210, 3) := by decide +kernel
theorem dX4_init_41 : decode cX4_init 41 = .ok (.newarray .int, 2) := by decide +kernel
theorem dX4_init_43 : decode cX4_init 43 = .ok (.putfield 22, 3) := by decide +kernel
theorem dX4_init_46 : decode cX4_init 46 = .ok (.aload_n 0, 1) := by decide +kernel
theorem dX4_init_47 : decode cX4_init 47 = .ok (.bipush 42, 2) := by decide +kernel
theorem dX4_init_49 : decode cX4_init 49 = .ok (.newarray .int, 2) := by decide +kernel
theorem dX4_init_51 : decode cX4_init 51 = .ok (.putfield 25, 3) := by decide +kernel
theorem dX4_init_54 : decode cX4_init 54 = .ok (.aload_n 0, 1) := by decide +kernel
theorem dX4_init_55 : decode cX4_init 55 = .ok (.iconst 2, 1) := by decide +kernel
theorem dX4_init_56 : decode cX4_init 56 = .ok (.newarray .boolean, 2) := by decide +kernel
theorem dX4_init_58 : decode cX4_init 58 = .ok (.putfield 28, 3) := by decide +kernel
theorem dX4_init_61 : decode cX4_init 61 = .ok (.aload_n 0, 1) := by decide +kernel
theorem dX4_init_62 : decode cX4_init 62 = .ok (.bipush 6, 2) := by decide +kernel
theorem dX4_init_64 : decode cX4_init 64 = .ok (.newarray .int, 2) := by decide +kernel
theorem dX4_init_66 : decode cX4_init 66 = .ok (.putfield 32, 3) := by decide +kernel
theorem dX4_init_69 : decode cX4_init 69 = .ok (.aload_n 0, 1) := by decide +kernel
theorem dX4_init_70 : decode cX4_init 70 = .ok (.bipush 63, 2) := by decide +kernel
theorem dX4_init_72 : decode cX4_init 72 = .ok (.putfield 35, 3) := by decide +kernel
theorem dX4_init_75 : decode cX4_init 75 = .ok (.aload_n 0, 1) := by decide +kernel
theorem dX4_init_76 : decode cX4_init 76 = .ok (.bipush (-9), 2) := by decide +kernel
theorem dX4_init_78 : decode cX4_init 78 = .ok (.putfield 39, 3) := by decide +kernel
theorem dX4_init_81 : decode cX4_init 81 = .ok (.aload_n 0, 1) := by decide +kernel
theorem dX4_init_82 : decode cX4_init 82 = .ok (.bipush (-9), 2) := by decide +kernel
theorem dX4_init_84 : decode cX4_init 84 = .ok (.putfield 42, 3) := by decide +kernel
theorem dX4_init_87 : decode cX4_init 87 = .ok (.aload_n 0, 1) := by decide +kernel
theorem dX4_init_88 : decode cX4_init 88 = .ok (.bipush (-9), 2) := by decide +kernel
theorem dX4_init_90 : decode cX4_init 90 = .ok (.putfield 45, 3) := by decide +kernel
theorem dX4_init_93 : decode cX4_init 93 = .ok (.aload_n 0, 1) := by decide +kernel
theorem dX4_init_94 : decode cX4_init 94 = .ok (.bipush 21, 2) := by decide +kernel
theorem dX4_init_96 : decode cX4_init 96 = .ok (.newarray .int, 2) := by decide +kernel
theorem dX4_init_98 : decode cX4_init 98 = .ok (.putfield 48, 3) := by decide +kernel
theorem dX4_init_101 : decode cX4_init 101 = .ok (.aload_n 0, 1) := by decide +kernel
theorem dX4_init_102 : decode cX4_init 102 = .ok (.bipush 63, 2) := by decide +kernel
theorem dX4_init_104 : decode cX4_init 104 = .ok (.newarray .int, 2) := by decide +kernel
theorem dX4_init_106 : decode cX4_init 106 = .ok (.putfield 51, 3) := by decide +kernel
theorem dX4_init_109 : decode cX4_init 109 = .ok (.aload_n 0, 1) := by decide +kernel
theorem dX4_init_110 : decode cX4_init 110 = .ok (.iconst 3, 1) := by decide +kernel
theorem dX4_init_111 : decode cX4_init 111 = .ok (.newarray .int, 2) := by decide +kernel
theorem dX4_init_113 : decode cX4_init 113 = .ok (.putfield 54, 3) := by decide +kernel
theorem dX4_init_116 : decode cX4_init 116 = .ok (.aload_n 0, 1) := by decide +kernel
theorem dX4_init_117 : decode cX4_init 117 = .ok (.iconst 3, 1) := by decide +kernel
theorem dX4_init_118 : decode cX4_init 118 = .ok (.newarray .int, 2) := by decide +kernel
theorem dX4_init_120 : decode cX4_init 120 = .ok (.putfield 57, 3) := by decide +kernel
theorem dX4_init_123 : decode cX4_init 123 = .ok (.aload_n 0, 1) := by decide +kernel
theorem dX4_init_124 : decode cX4_init 124 = .ok (.invokevirtual 60, 3) := by decide +kernel
theorem dX4_init_127 : decode cX4_init 127 = .ok (.pop, 1) := by decide +kernel
theorem dX4_init_128 : decode cX4_init 128 = .ok (.aload_n 0, 1) := by decide +kernel
theorem dX4_init_129 : decode cX4_init 129 = .ok (.invokevirtual 64, 3) := by decide +kernel
theorem dX4_init_132 : decode cX4_init 132 = .ok (.return_, 1) := by decide +kernel
theorem dX4_in_0 : decode cX4_in 0 = .ok (.iload_n 0, 1) := by decide +kernel
theorem dX4_in_1 : decode cX4_in 1 = .ok (.iload_n 1, 1) := by decide +kernel
theorem dX4_in_2 : decode cX4_in 2 = .ok (.if_icmp .lt 12, 3) := by decide +kernel
theorem dX4_in_5 : decode cX4_in 5 = .ok (.iload_n 0, 1) := by decide +kernel
theorem dX4_in_6 : decode cX4_in 6 = .ok (.iload_n 2, 1) := by decide +kernel
theorem dX4_in_7 : decode cX4_in 7 = .ok (.if_icmp .gt 7, 3) := by decide +kernel
theorem dX4_in_10 : decode cX4_in 10 = .ok (.iconst 1, 1) := by decide +kernel
theorem dX4_in_11 : decode cX4_in 11 = .ok (.goto 4, 3) := by decide +kernel
theorem dX4_in_14 : decode cX4_in 14 = .ok (.iconst 0, 1) := by decide +kernel
theorem dX4_in_15 : decode cX4_in 15 = .ok (.ireturn, 1) := by decide +kernel
theorem dX4_isCitizen_0 : decode cX4_isCitizen 0 = .ok (.iload_n 1, 1) := by decide +kernel
theorem dX4_isCitizen_1 : decode cX4_isCitizen 1 = .ok (.iconst 0, 1) := by decide +kernel
theorem dX4_isCitizen_2 : decode cX4_isCitizen 2 = .ok (.aload_n 0, 1) := by decide +kernel
theorem dX4_isCitizen_3 : decode cX4_isCitizen 3 = .ok (.getfield 13, 3) := by decide +kernel
theorem dX4_isCitizen_6 : decode cX4_isCitizen 6 = .ok (.iconst 2, 1) := by decide +kernel
theorem dX4_isCitizen_7 : decode cX4_isCitizen 7 = .ok (.iaload, 1) := by decide +kernel
theorem dX4_isCitizen_8 : decode cX4_isCitizen 8 = .ok (.iconst 1, 1) := by decide +kernel
theorem dX4_isCitizen_9 : decode cX4_isCitizen 9 = .ok (.isub, 1) := by decide +kernel
theorem dX4_isCitizen_10 : decode cX4_isCitizen 10 = .ok (.invokestatic 67, 3) := by decide +kernel
theorem dX4_isCitizen_13 : decode cX4_isCitizen 13 = .ok (.ireturn, 1) := by decide +kernel
theorem dX4_isDistrict_0 : decode cX4_isDistrict 0 = .ok (.iload_n 1, 1) := by decide +kernel
theorem dX4_isDistrict_1 : decode cX4_isDistrict 1 = .ok (.iconst 0, 1) := by decide +kernel
theorem dX4_isDistrict_2 : decode cX4_isDistrict 2 = .ok (.aload_n 0, 1) := by decide +kernel
theorem dX4_isDistrict_3 : decode cX4_isDistrict 3 = .ok (.getfield 13, 3) := by decide +kernel
theorem dX4_isDistrict_6 : decode cX4_isDistrict 6 = .ok (.iconst 0, 1) := by decide +kernel
theorem dX4_isDistrict_7 : decode cX4_isDistrict 7 = .ok (.iaload, 1) := by decide +kernel
theorem dX4_isDistrict_8 : decode cX4_isDistrict 8 = .ok (.iconst 1, 1) := by decide +kernel
theorem dX4_isDistrict_9 : decode cX4_isDistrict 9 = .ok (.isub, 1) := by decide +kernel
theorem dX4_isDistrict_10 : decode cX4_isDistrict 10 = .ok (.invokestatic 67, 3) := by decide +kernel
theorem dX4_isDistrict_13 : decode cX4_isDistrict 13 = .ok (.ireturn, 1) := by decide +kernel
theorem dX4_ones_0 : decode cX4_ones 0 = .ok (.iconst 0, 1) := by decide +kernel
theorem dX4_ones_1 : decode cX4_ones 1 = .ok (.istore_n 1, 1) := by decide +kernel
theorem dX4_ones_2 : decode cX4_ones 2 = .ok (.iconst 0, 1) := by decide +kernel
theorem dX4_ones_3 : decode cX4_ones 3 = .ok (.istore_n 2, 1) := by decide +kernel
theorem dX4_ones_4 : decode cX4_ones 4 = .ok (.iload_n 2, 1) := by decide +kernel
theorem dX4_ones_5 : decode cX4_ones 5 = .ok (.bipush 8, 2) := by decide +kernel
theorem dX4_ones_7 : decode cX4_ones 7 = .ok (.if_icmp .ge 17, 3) := by decide +kernel
theorem dX4_ones_10 : decode cX4_ones 10 = .ok (.iload_n 1, 1) := by decide +kernel
theorem dX4_ones_11 : decode cX4_ones 11 = .ok (.iload_n 0, 1) := by decide +kernel
theorem dX4_ones_12 : decode cX4_ones 12 = .ok (.iload_n 2, 1) := by decide +kernel
theorem dX4_ones_13 : decode cX4_ones 13 = .ok (.ishr, 1) := by decide +kernel
theorem dX4_ones_14 : decode cX4_ones 14 = .ok (.iconst 1, 1) := by decide +kernel
theorem dX4_ones_15 : decode cX4_ones 15 = .ok (.iand, 1) := by decide +kernel
theorem dX4_ones_16 : decode cX4_ones 16 = .ok (.iadd, 1) := by decide +kernel
theorem dX4_ones_17 : decode cX4_ones 17 = .ok (.istore_n 1, 1) := by decide +kernel
theorem dX4_ones_18 : decode cX4_ones 18 = .ok (.iinc 2 1, 3) := by decide +kernel
theorem dX4_ones_21 : decode cX4_ones 21 = .ok (.goto (-17), 3) := by decide +kernel
theorem dX4_ones_24 : decode cX4_ones 24 = .ok (.iload_n 1, 1) := by decide +kernel
theorem dX4_ones_25 : decode cX4_ones 25 = .ok (.ireturn, 1) := by decide +kernel
theorem dX4_type_0 : decode cX4_type 0 = .ok (.iload_n 1, 1) := by decide +kernel
theorem dX4_type_1 : decode cX4_type 1 = .ok (.iconst 0, 1) := by decide +kernel
theorem dX4_type_2 : decode cX4_type 2 = .ok (.sipush 255, 3) := by decide +kernel
theorem dX4_type_5 : decode cX4_type 5 = .ok (.invokestatic 67, 3) := by decide +kernel
theorem dX4_type_8 : decode cX4_type 8 = .ok (.ifCond .ne 5, 3) := by decide +kernel
theorem dX4_type_11 : decode cX4_type 11 = .ok (.iconst (-1), 1) := by decide +kernel
theorem dX4_type_12 : decode cX4_type 12 = .ok (.ireturn, 1) := by decide +kernel
theorem dX4_type_13 : decode cX4_type 13 = .ok (.aload_n 0, 1) := by decide +kernel
theorem dX4_type_14 : decode cX4_type 14 = .ok (.getfield 71, 3) := by decide +kernel
theorem dX4_type_17 : decode cX4_type 17 = .ok (.sipush 200, 3) := by decide +kernel
theorem dX4_type_20 : decode cX4_type 20 = .ok (.if_icmp .ne 6, 3) := by decide +kernel
theorem dX4_type_23 : decode cX4_type 23 = .ok (.bipush (-3), 2) := by decide +kernel
theorem dX4_type_25 : decode cX4_type 25 = .ok (.ireturn, 1) := by decide +kernel
theorem dX4_type_26 : decode cX4_type 26 = .ok (.aload_n 0, 1) := by decide +kernel
theorem dX4_type_27 : decode cX4_type 27 = .ok (.getfield 7, 3) := by decide +kernel
theorem dX4_type_30 : decode cX4_type 30 = .ok (.aload_n 0, 1) := by decide +kernel
theorem dX4_type_31 : decode cX4_type 31 = .ok (.getfield 71, 3) := by decide +kernel
theorem dX4_type_34 : decode cX4_type 34 = .ok (.iload_n 1, 1) := by decide +kernel
theorem dX4_type_35 : decode cX4_type 35 = .ok (.iastore, 1) := by decide +kernel
theorem dX4_type_36 : decode cX4_type 36 = .ok (.aload_n 0, 1) := by decide +kernel
theorem dX4_type_37 : decode cX4_type 37 = .ok (.dup, 1) := by decide +kernel
theorem dX4_type_38 : decode cX4_type 38 = .ok (.getfield 71, 3) := by decide +kernel
theorem dX4_type_41 : decode cX4_type 41 = .ok (.iconst 1, 1) := by decide +kernel
theorem dX4_type_42 : decode cX4_type 42 = .ok (.iadd, 1) := by decide +kernel
theorem dX4_type_43 : decode cX4_type 43 = .ok (.putfield 71, 3) := by decide +kernel
theorem dX4_type_46 : decode cX4_type 46 = .ok (.aload_n 0, 1) := by decide +kernel
theorem dX4_type_47 : decode cX4_type 47 = .ok (.getfield 71, 3) := by decide +kernel
theorem dX4_type_50 : decode cX4_type 50 = .ok (.ireturn, 1) := by decide +kernel
theorem dX4_clear_0 : decode cX4_clear 0 = .ok (.aload_n 0, 1) := by decide +kernel
theorem dX4_clear_1 : decode cX4_clear 1 = .ok (.getfield 71, 3) := by decide +kernel
theorem dX4_clear_4 : decode cX4_clear 4 = .ok (.istore_n 1, 1) := by decide +kernel
theorem dX4_clear_5 : decode cX4_clear 5 = .ok (.aload_n 0, 1) := by decide +kernel
theorem dX4_clear_6 : decode cX4_clear 6 = .ok (.iconst 0, 1) := by decide +kernel
theorem dX4_clear_7 : decode cX4_clear 7 = .ok (.putfield 71, 3) := by decide +kernel
theorem dX4_clear_10 : decode cX4_clear 10 = .ok (.iload_n 1, 1) := by decide +kernel
theorem dX4_clear_11 : decode cX4_clear 11 = .ok (.ireturn, 1) := by decide +kernel
theorem dX4_letterAt_0 : decode cX4_letterAt 0 = .ok (.iload_n 1, 1) := by decide +kernel
theorem dX4_letterAt_1 : decode cX4_letterAt 1 = .ok (.aload_n 0, 1) := by decide +kernel
theorem dX4_letterAt_2 : decode cX4_letterAt 2 = .ok (.getfield 71, 3) := by decide +kernel
theorem dX4_letterAt_5 : decode cX4_letterAt 5 = .ok (.if_icmp .ge 12, 3) := by decide +kernel
theorem dX4_letterAt_8 : decode cX4_letterAt 8 = .ok (.aload_n 0, 1) := by decide +kernel
theorem dX4_letterAt_9 : decode cX4_letterAt 9 = .ok (.getfield 7, 3) := by decide +kernel
theorem dX4_letterAt_12 : decode cX4_letterAt 12 = .ok (.iload_n 1, 1) := by decide +kernel
theorem dX4_letterAt_13 : decode cX4_letterAt 13 = .ok (.iaload, 1) := by decide +kernel
theorem dX4_letterAt_14 : decode cX4_letterAt 14 = .ok (.goto 4, 3) := by decide +kernel
theorem dX4_letterAt_17 : decode cX4_letterAt 17 = .ok (.iconst (-1), 1) := by decide +kernel
theorem dX4_letterAt_18 : decode cX4_letterAt 18 = .ok (.ireturn, 1) := by decide +kernel
theorem dX4_isDigit_0 : decode cX4_isDigit 0 = .ok (.iload_n 0, 1) := by decide +kernel
theorem dX4_isDigit_1 : decode cX4_isDigit 1 = .ok (.bipush 48, 2) := by decide +kernel
theorem dX4_isDigit_3 : decode cX4_isDigit 3 = .ok (.bipush 57, 2) := by decide +kernel
theorem dX4_isDigit_5 : decode cX4_isDigit 5 = .ok (.invokestatic 67, 3) := by decide +kernel
theorem dX4_isDigit_8 : decode cX4_isDigit 8 = .ok (.ireturn, 1) := by decide +kernel
theorem dX4_isItem_0 : decode cX4_isItem 0 = .ok (.iload_n 0, 1) := by decide +kernel
theorem dX4_isItem_1 : decode cX4_isItem 1 = .ok (.bipush 100, 2) := by decide +kernel
theorem dX4_isItem_3 : decode cX4_isItem 3 = .ok (.if_icmp .eq 33, 3) := by decide +kernel
theorem dX4_isItem_6 : decode cX4_isItem 6 = .ok (.iload_n 0, 1) := by decide +kernel
theorem dX4_isItem_7 : decode cX4_isItem 7 = .ok (.bipush 113, 2) := by decide +kernel
theorem dX4_isItem_9 : decode cX4_isItem 9 = .ok (.if_icmp .eq 27, 3) := by decide +kernel
theorem dX4_isItem_12 : decode cX4_isItem 12 = .ok (.iload_n 0, 1) := by decide +kernel
theorem dX4_isItem_13 : decode cX4_isItem 13 = .ok (.bipush 101, 2) := by decide +kernel
theorem dX4_isItem_15 : decode cX4_isItem 15 = .ok (.if_icmp .eq 21, 3) := by decide +kernel
theorem dX4_isItem_18 : decode cX4_isItem 18 = .ok (.iload_n 0, 1) := by decide +kernel
theorem dX4_isItem_19 : decode cX4_isItem 19 = .ok (.bipush 98, 2) := by decide +kernel
theorem dX4_isItem_21 : decode cX4_isItem 21 = .ok (.if_icmp .eq 15, 3) := by decide +kernel
theorem dX4_isItem_24 : decode cX4_isItem 24 = .ok (.iload_n 0, 1) := by decide +kernel
theorem dX4_isItem_25 : decode cX4_isItem 25 = .ok (.bipush 99, 2) := by decide +kernel
theorem dX4_isItem_27 : decode cX4_isItem 27 = .ok (.if_icmp .eq 9, 3) := by decide +kernel
theorem dX4_isItem_30 : decode cX4_isItem 30 = .ok (.iload_n 0, 1) := by decide +kernel
theorem dX4_isItem_31 : decode cX4_isItem 31 = .ok (.bipush 110, 2) := by decide +kernel
theorem dX4_isItem_33 : decode cX4_isItem 33 = .ok (.if_icmp .ne 7, 3) := by decide +kernel
theorem dX4_isItem_36 : decode cX4_isItem 36 = .ok (.iconst 1, 1) := by decide +kernel
theorem dX4_isItem_37 : decode cX4_isItem 37 = .ok (.goto 4, 3) := by decide +kernel
theorem dX4_isItem_40 : decode cX4_isItem 40 = .ok (.iconst 0, 1) := by decide +kernel
theorem dX4_isItem_41 : decode cX4_isItem 41 = .ok (.ireturn, 1) := by decide +kernel
theorem dX4_token_0 : decode cX4_token 0 = .ok (.aload_n 0, 1) := by decide +kernel
theorem dX4_token_1 : decode cX4_token 1 = .ok (.aload_n 0, 1) := by decide +kernel
theorem dX4_token_2 : decode cX4_token 2 = .ok (.getfield 74, 3) := by decide +kernel
theorem dX4_token_5 : decode cX4_token 5 = .ok (.invokevirtual 77, 3) := by decide +kernel
theorem dX4_token_8 : decode cX4_token 8 = .ok (.bipush 32, 2) := by decide +kernel
theorem dX4_token_10 : decode cX4_token 10 = .ok (.if_icmp .ne 16, 3) := by decide +kernel
theorem dX4_token_13 : decode cX4_token 13 = .ok (.aload_n 0, 1) := by decide +kernel
theorem dX4_token_14 : decode cX4_token 14 = .ok (.dup, 1) := by decide +kernel
theorem dX4_token_15 : decode cX4_token 15 = .ok (.getfield 74, 3) := by decide +kernel
theorem dX4_token_18 : decode cX4_token 18 = .ok (.iconst 1, 1) := by decide +kernel
theorem dX4_token_19 : decode cX4_token 19 = .ok (.iadd, 1) := by decide +kernel
theorem dX4_token_20 : decode cX4_token 20 = .ok (.putfield 74, 3) := by decide +kernel
theorem dX4_token_23 : decode cX4_token 23 = .ok (.goto (-23), 3) := by decide +kernel
theorem dX4_token_26 : decode cX4_token 26 = .ok (.aload_n 0, 1) := by decide +kernel
theorem dX4_token_27 : decode cX4_token 27 = .ok (.aload_n 0, 1) := by decide +kernel
theorem dX4_token_28 : decode cX4_token 28 = .ok (.getfield 74, 3) := by decide +kernel
theorem dX4_token_31 : decode cX4_token 31 = .ok (.putfield 81, 3) := by decide +kernel
theorem dX4_token_34 : decode cX4_token 34 = .ok (.aload_n 0, 1) := by decide +kernel
theorem dX4_token_35 : decode cX4_token 35 = .ok (.aload_n 0, 1) := by decide +kernel
theorem dX4_token_36 : decode cX4_token 36 = .ok (.getfield 74, 3) := by decide +kernel
theorem dX4_token_39 : decode cX4_token 39 = .ok (.invokevirtual 77, 3) := by decide +kernel
theorem dX4_token_42 : decode cX4_token 42 = .ok (.istore_n 1, 1) := by decide +kernel
theorem dX4_token_43 : decode cX4_token 43 = .ok (.aload_n 0, 1) := by decide +kernel
theorem dX4_token_44 : decode cX4_token 44 = .ok (.iload_n 1, 1) := by decide +kernel
theorem dX4_token_45 : decode cX4_token 45 = .ok (.ifCond .ge 7, 3) := by decide +kernel
theorem dX4_token_48 : decode cX4_token 48 = .ok (.iconst 0, 1) := by decide +kernel
theorem dX4_token_49 : decode cX4_token 49 = .ok (.goto 36, 3) := by decide +kernel
theorem dX4_token_52 : decode cX4_token 52 = .ok (.iload_n 1, 1) := by decide +kernel
theorem dX4_token_53 : decode cX4_token 53 = .ok (.invokestatic 84, 3) := by decide +kernel
theorem dX4_token_56 : decode cX4_token 56 = .ok (.ifCond .eq 7, 3) := by decide +kernel
theorem dX4_token_59 : decode cX4_token 59 = .ok (.iconst 1, 1) := by decide +kernel
theorem dX4_token_60 : decode cX4_token 60 = .ok (.goto 25, 3) := by decide +kernel
theorem dX4_token_63 : decode cX4_token 63 = .ok (.iload_n 1, 1) := by decide +kernel
theorem dX4_token_64 : decode cX4_token 64 = .ok (.invokestatic 88, 3) := by decide +kernel
theorem dX4_token_67 : decode cX4_token 67 = .ok (.ifCond .eq 7, 3) := by decide +kernel
theorem dX4_token_70 : decode cX4_token 70 = .ok (.iconst 2, 1) := by decide +kernel
theorem dX4_token_71 : decode cX4_token 71 = .ok (.goto 14, 3) := by decide +kernel
theorem dX4_token_74 : decode cX4_token 74 = .ok (.iload_n 1, 1) := by decide +kernel
theorem dX4_token_75 : decode cX4_token 75 = .ok (.bipush 59, 2) := by decide +kernel
theorem dX4_token_77 : decode cX4_token 77 = .ok (.if_icmp .ne 7, 3) := by decide +kernel
theorem dX4_token_80 : decode cX4_token 80 = .ok (.iconst 3, 1) := by decide +kernel
theorem dX4_token_81 : decode cX4_token 81 = .ok (.goto 4, 3) := by decide +kernel
theorem dX4_token_84 : decode cX4_token 84 = .ok (.iconst 4, 1) := by decide +kernel
theorem dX4_token_85 : decode cX4_token 85 = .ok (.putfield 91, 3) := by decide +kernel
theorem dX4_token_88 : decode cX4_token 88 = .ok (.aload_n 0, 1) := by decide +kernel
theorem dX4_token_89 : decode cX4_token 89 = .ok (.iload_n 1, 1) := by decide +kernel
theorem dX4_token_90 : decode cX4_token 90 = .ok (.putfield 94, 3) := by decide +kernel
theorem dX4_token_93 : decode cX4_token 93 = .ok (.aload_n 0, 1) := by decide +kernel
theorem dX4_token_94 : decode cX4_token 94 = .ok (.dup, 1) := by decide +kernel
theorem dX4_token_95 : decode cX4_token 95 = .ok (.getfield 74, 3) := by decide +kernel
theorem dX4_token_98 : decode cX4_token 98 = .ok (.aload_n 0, 1) := by decide +kernel
theorem dX4_token_99 : decode cX4_token 99 = .ok (.getfield 91, 3) := by decide +kernel
theorem dX4_token_102 : decode cX4_token 102 = .ok (.ifCond .ne 7, 3) := by decide +kernel
theorem dX4_token_105 : decode cX4_token 105 = .ok (.iconst 0, 1) := by decide +kernel
theorem dX4_token_106 : decode cX4_token 106 = .ok (.goto 4, 3) := by decide +kernel
theorem dX4_token_109 : decode cX4_token 109 = .ok (.iconst 1, 1) := by decide +kernel
theorem dX4_token_110 : decode cX4_token 110 = .ok (.iadd, 1) := by decide +kernel
theorem dX4_token_111 : decode cX4_token 111 = .ok (.putfield 74, 3) := by decide +kernel
theorem dX4_token_114 : decode cX4_token 114 = .ok (.aload_n 0, 1) := by decide +kernel
theorem dX4_token_115 : decode cX4_token 115 = .ok (.getfield 91, 3) := by decide +kernel
theorem dX4_token_118 : decode cX4_token 118 = .ok (.iconst 2, 1) := by decide +kernel
theorem dX4_token_119 : decode cX4_token 119 = .ok (.if_icmp .ne 84, 3) := by decide +kernel
theorem dX4_token_122 : decode cX4_token 122 = .ok (.aload_n 0, 1) := by decide +kernel
theorem dX4_token_123 : decode cX4_token 123 = .ok (.iload_n 1, 1) := by decide +kernel
theorem dX4_token_124 : decode cX4_token 124 = .ok (.bipush 48, 2) := by decide +kernel
theorem dX4_token_126 : decode cX4_token 126 = .ok (.isub, 1) := by decide +kernel
theorem dX4_token_127 : decode cX4_token 127 = .ok (.putfield 94, 3) := by decide +kernel
theorem dX4_token_130 : decode cX4_token 130 = .ok (.aload_n 0, 1) := by decide +kernel
theorem dX4_token_131 : decode cX4_token 131 = .ok (.aload_n 0, 1) := by decide +kernel
theorem dX4_token_132 : decode cX4_token 132 = .ok (.getfield 74, 3) := by decide +kernel
theorem dX4_token_135 : decode cX4_token 135 = .ok (.invokevirtual 77, 3) := by decide +kernel
theorem dX4_token_138 : decode cX4_token 138 = .ok (.invokestatic 88, 3) := by decide +kernel
theorem dX4_token_141 : decode cX4_token 141 = .ok (.ifCond .eq 62, 3) := by decide +kernel
theorem dX4_token_144 : decode cX4_token 144 = .ok (.aload_n 0, 1) := by decide +kernel
theorem dX4_token_145 : decode cX4_token 145 = .ok (.iload_n 1, 1) := by decide +kernel
theorem dX4_token_146 : decode cX4_token 146 = .ok (.bipush 48, 2) := by decide +kernel
theorem dX4_token_148 : decode cX4_token 148 = .ok (.if_icmp .eq 13, 3) := by decide +kernel
theorem dX4_token_151 : decode cX4_token 151 = .ok (.aload_n 0, 1) := by decide +kernel
theorem dX4_token_152 : decode cX4_token 152 = .ok (.getfield 94, 3) := by decide +kernel
theorem dX4_token_155 : decode cX4_token 155 = .ok (.sipush 255, 3) := by decide +kernel
theorem dX4_token_158 : decode cX4_token 158 = .ok (.if_icmp .le 9, 3) := by decide +kernel
theorem dX4_token_161 : decode cX4_token 161 = .ok (.sipush 1000, 3) := by decide +kernel
theorem dX4_token_164 : decode cX4_token 164 = .ok (.goto 23, 3) := by decide +kernel
theorem dX4_token_167 : decode cX4_token 167 = .ok (.bipush 10, 2) := by decide +kernel
theorem dX4_token_169 : decode cX4_token 169 = .ok (.aload_n 0, 1) := by decide +kernel
theorem dX4_token_170 : decode cX4_token 170 = .ok (.getfield 94, 3) := by decide +kernel
theorem dX4_token_173 : decode cX4_token 173 = .ok (.imul, 1) := by decide +kernel
theorem dX4_token_174 : decode cX4_token 174 = .ok (.aload_n 0, 1) := by decide +kernel
theorem dX4_token_175 : decode cX4_token 175 = .ok (.getfield 7, 3) := by decide +kernel
theorem dX4_token_178 : decode cX4_token 178 = .ok (.aload_n 0, 1) := by decide +kernel
theorem dX4_token_179 : decode cX4_token 179 = .ok (.getfield 74, 3) := by decide +kernel
theorem dX4_token_182 : decode cX4_token 182 = .ok (.iaload, 1) := by decide +kernel
theorem dX4_token_183 : decode cX4_token 183 = .ok (.iadd, 1) := by decide +kernel
theorem dX4_token_184 : decode cX4_token 184 = .ok (.bipush 48, 2) := by decide +kernel
theorem dX4_token_186 : decode cX4_token 186 = .ok (.isub, 1) := by decide +kernel
theorem dX4_token_187 : decode cX4_token 187 = .ok (.putfield 94, 3) := by decide +kernel
theorem dX4_token_190 : decode cX4_token 190 = .ok (.aload_n 0, 1) := by decide +kernel
theorem dX4_token_191 : decode cX4_token 191 = .ok (.dup, 1) := by decide +kernel
theorem dX4_token_192 : decode cX4_token 192 = .ok (.getfield 74, 3) := by decide +kernel
theorem dX4_token_195 : decode cX4_token 195 = .ok (.iconst 1, 1) := by decide +kernel
theorem dX4_token_196 : decode cX4_token 196 = .ok (.iadd, 1) := by decide +kernel
theorem dX4_token_197 : decode cX4_token 197 = .ok (.putfield 74, 3) := by decide +kernel
theorem dX4_token_200 : decode cX4_token 200 = .ok (.goto (-70), 3) := by decide +kernel
theorem dX4_token_203 : decode cX4_token 203 = .ok (.return_, 1) := by decide +kernel
theorem dX4_number_0 : decode cX4_number 0 = .ok (.aload_n 0, 1) := by decide +kernel
theorem dX4_number_1 : decode cX4_number 1 = .ok (.invokevirtual 97, 3) := by decide +kernel
theorem dX4_number_4 : decode cX4_number 4 = .ok (.aload_n 0, 1) := by decide +kernel
theorem dX4_number_5 : decode cX4_number 5 = .ok (.getfield 16, 3) := by decide +kernel
theorem dX4_number_8 : decode cX4_number 8 = .ok (.iload_n 1, 1) := by decide +kernel
theorem dX4_number_9 : decode cX4_number 9 = .ok (.aload_n 0, 1) := by decide +kernel
theorem dX4_number_10 : decode cX4_number 10 = .ok (.getfield 94, 3) := by decide +kernel
theorem dX4_number_13 : decode cX4_number 13 = .ok (.iastore, 1) := by decide +kernel
theorem dX4_number_14 : decode cX4_number 14 = .ok (.aload_n 0, 1) := by decide +kernel
theorem dX4_number_15 : decode cX4_number 15 = .ok (.getfield 91, 3) := by decide +kernel
theorem dX4_number_18 : decode cX4_number 18 = .ok (.iconst 2, 1) := by decide +kernel
theorem dX4_number_19 : decode cX4_number 19 = .ok (.if_icmp .ne 19, 3) := by decide +kernel
theorem dX4_number_22 : decode cX4_number 22 = .ok (.aload_n 0, 1) := by decide +kernel
theorem dX4_number_23 : decode cX4_number 23 = .ok (.getfield 94, 3) := by decide +kernel
theorem dX4_number_26 : decode cX4_number 26 = .ok (.iload_n 2, 1) := by decide +kernel
theorem dX4_number_27 : decode cX4_number 27 = .ok (.iload_n 3, 1) := by decide +kernel
theorem dX4_number_28 : decode cX4_number 28 = .ok (.invokestatic 67, 3) := by decide +kernel
theorem dX4_number_31 : decode cX4_number 31 = .ok (.ifCond .eq 7, 3) := by decide +kernel
theorem dX4_number_34 : decode cX4_number 34 = .ok (.iconst 1, 1) := by decide +kernel
theorem dX4_number_35 : decode cX4_number 35 = .ok (.goto 4, 3) := by decide +kernel
theorem dX4_number_38 : decode cX4_number 38 = .ok (.iconst 0, 1) := by decide +kernel
theorem dX4_number_39 : decode cX4_number 39 = .ok (.ireturn, 1) := by decide +kernel
theorem dX4_readsDistricts_0 : decode cX4_readsDistricts 0 = .ok (.aload_n 0, 1) := by decide +kernel
theorem dX4_readsDistricts_1 : decode cX4_readsDistricts 1 = .ok (.getfield 16, 3) := by decide +kernel
theorem dX4_readsDistricts_4 : decode cX4_readsDistricts 4 = .ok (.iconst 4, 1) := by decide +kernel
theorem dX4_readsDistricts_5 : decode cX4_readsDistricts 5 = .ok (.iaload, 1) := by decide +kernel
theorem dX4_readsDistricts_6 : decode cX4_readsDistricts 6 = .ok (.ifCond .gt 13, 3) := by decide +kernel
theorem dX4_readsDistricts_9 : decode cX4_readsDistricts 9 = .ok (.aload_n 0, 1) := by decide +kernel
theorem dX4_readsDistricts_10 : decode cX4_readsDistricts 10 = .ok (.iconst 0, 1) := by decide +kernel
theorem dX4_readsDistricts_11 : decode cX4_readsDistricts 11 = .ok (.iconst 1, 1) := by decide +kernel
theorem dX4_readsDistricts_12 : decode cX4_readsDistricts 12 = .ok (.iconst 4, 1) := by decide +kernel
theorem dX4_readsDistricts_13 : decode cX4_readsDistricts 13 = .ok (.invokevirtual 100, 3) := by decide +kernel
theorem dX4_readsDistricts_16 : decode cX4_readsDistricts 16 = .ok (.ifCond .ne 5, 3) := by decide +kernel
theorem dX4_readsDistricts_19 : decode cX4_readsDistricts 19 = .ok (.iconst 0, 1) := by decide +kernel
theorem dX4_readsDistricts_20 : decode cX4_readsDistricts 20 = .ok (.ireturn, 1) := by decide +kernel
theorem dX4_readsDistricts_21 : decode cX4_readsDistricts 21 = .ok (.iconst 1, 1) := by decide +kernel
theorem dX4_readsDistricts_22 : decode cX4_readsDistricts 22 = .ok (.ireturn, 1) := by decide +kernel
theorem dX4_readsQuota_0 : decode cX4_readsQuota 0 = .ok (.aload_n 0, 1) := by decide +kernel
theorem dX4_readsQuota_1 : decode cX4_readsQuota 1 = .ok (.getfield 16, 3) := by decide +kernel
theorem dX4_readsQuota_4 : decode cX4_readsQuota 4 = .ok (.iconst 5, 1) := by decide +kernel
theorem dX4_readsQuota_5 : decode cX4_readsQuota 5 = .ok (.iaload, 1) := by decide +kernel
theorem dX4_readsQuota_6 : decode cX4_readsQuota 6 = .ok (.iconst 1, 1) := by decide +kernel
theorem dX4_readsQuota_7 : decode cX4_readsQuota 7 = .ok (.if_icmp .ne 5, 3) := by decide +kernel
theorem dX4_readsQuota_10 : decode cX4_readsQuota 10 = .ok (.iconst 0, 1) := by decide +kernel
theorem dX4_readsQuota_11 : decode cX4_readsQuota 11 = .ok (.ireturn, 1) := by decide +kernel
theorem dX4_readsQuota_12 : decode cX4_readsQuota 12 = .ok (.aload_n 0, 1) := by decide +kernel
theorem dX4_readsQuota_13 : decode cX4_readsQuota 13 = .ok (.getfield 16, 3) := by decide +kernel
theorem dX4_readsQuota_16 : decode cX4_readsQuota 16 = .ok (.iconst 5, 1) := by decide +kernel
theorem dX4_readsQuota_17 : decode cX4_readsQuota 17 = .ok (.iconst 1, 1) := by decide +kernel
theorem dX4_readsQuota_18 : decode cX4_readsQuota 18 = .ok (.iastore, 1) := by decide +kernel
theorem dX4_readsQuota_19 : decode cX4_readsQuota 19 = .ok (.aload_n 0, 1) := by decide +kernel
theorem dX4_readsQuota_20 : decode cX4_readsQuota 20 = .ok (.iconst 1, 1) := by decide +kernel
theorem dX4_readsQuota_21 : decode cX4_readsQuota 21 = .ok (.iconst 0, 1) := by decide +kernel
theorem dX4_readsQuota_22 : decode cX4_readsQuota 22 = .ok (.bipush 6, 2) := by decide +kernel
theorem dX4_readsQuota_24 : decode cX4_readsQuota 24 = .ok (.invokevirtual 100, 3) := by decide +kernel
theorem dX4_readsQuota_27 : decode cX4_readsQuota 27 = .ok (.ireturn, 1) := by decide +kernel
theorem dX4_readsRoad_0 : decode cX4_readsRoad 0 = .ok (.aload_n 0, 1) := by decide +kernel
theorem dX4_readsRoad_1 : decode cX4_readsRoad 1 = .ok (.invokevirtual 97, 3) := by decide +kernel
theorem dX4_readsRoad_4 : decode cX4_readsRoad 4 = .ok (.aload_n 0, 1) := by decide +kernel
theorem dX4_readsRoad_5 : decode cX4_readsRoad 5 = .ok (.getfield 94, 3) := by decide +kernel
theorem dX4_readsRoad_8 : decode cX4_readsRoad 8 = .ok (.istore_n 1, 1) := by decide +kernel
theorem dX4_readsRoad_9 : decode cX4_readsRoad 9 = .ok (.aload_n 0, 1) := by decide +kernel
theorem dX4_readsRoad_10 : decode cX4_readsRoad 10 = .ok (.getfield 91, 3) := by decide +kernel
theorem dX4_readsRoad_13 : decode cX4_readsRoad 13 = .ok (.iconst 2, 1) := by decide +kernel
theorem dX4_readsRoad_14 : decode cX4_readsRoad 14 = .ok (.if_icmp .ne 19, 3) := by decide +kernel
theorem dX4_readsRoad_17 : decode cX4_readsRoad 17 = .ok (.iload_n 1, 1) := by decide +kernel
theorem dX4_readsRoad_18 : decode cX4_readsRoad 18 = .ok (.iconst 0, 1) := by decide +kernel
theorem dX4_readsRoad_19 : decode cX4_readsRoad 19 = .ok (.aload_n 0, 1) := by decide +kernel
theorem dX4_readsRoad_20 : decode cX4_readsRoad 20 = .ok (.getfield 16, 3) := by decide +kernel
theorem dX4_readsRoad_23 : decode cX4_readsRoad 23 = .ok (.iconst 0, 1) := by decide +kernel
theorem dX4_readsRoad_24 : decode cX4_readsRoad 24 = .ok (.iaload, 1) := by decide +kernel
theorem dX4_readsRoad_25 : decode cX4_readsRoad 25 = .ok (.iconst 1, 1) := by decide +kernel
theorem dX4_readsRoad_26 : decode cX4_readsRoad 26 = .ok (.isub, 1) := by decide +kernel
theorem dX4_readsRoad_27 : decode cX4_readsRoad 27 = .ok (.invokestatic 67, 3) := by decide +kernel
theorem dX4_readsRoad_30 : decode cX4_readsRoad 30 = .ok (.ifCond .ne 5, 3) := by decide +kernel
theorem dX4_readsRoad_33 : decode cX4_readsRoad 33 = .ok (.iconst 0, 1) := by decide +kernel
theorem dX4_readsRoad_34 : decode cX4_readsRoad 34 = .ok (.ireturn, 1) := by decide +kernel
theorem dX4_readsRoad_35 : decode cX4_readsRoad 35 = .ok (.aload_n 0, 1) := by decide +kernel
theorem dX4_readsRoad_36 : decode cX4_readsRoad 36 = .ok (.invokevirtual 97, 3) := by decide +kernel
theorem dX4_readsRoad_39 : decode cX4_readsRoad 39 = .ok (.aload_n 0, 1) := by decide +kernel
theorem dX4_readsRoad_40 : decode cX4_readsRoad 40 = .ok (.getfield 91, 3) := by decide +kernel
theorem dX4_readsRoad_43 : decode cX4_readsRoad 43 = .ok (.iconst 2, 1) := by decide +kernel
theorem dX4_readsRoad_44 : decode cX4_readsRoad 44 = .ok (.if_icmp .ne 30, 3) := by decide +kernel
theorem dX4_readsRoad_47 : decode cX4_readsRoad 47 = .ok (.aload_n 0, 1) := by decide +kernel
theorem dX4_readsRoad_48 : decode cX4_readsRoad 48 = .ok (.getfield 94, 3) := by decide +kernel
theorem dX4_readsRoad_51 : decode cX4_readsRoad 51 = .ok (.iconst 0, 1) := by decide +kernel
theorem dX4_readsRoad_52 : decode cX4_readsRoad 52 = .ok (.aload_n 0, 1) := by decide +kernel
theorem dX4_readsRoad_53 : decode cX4_readsRoad 53 = .ok (.getfield 16, 3) := by decide +kernel
theorem dX4_readsRoad_56 : decode cX4_readsRoad 56 = .ok (.iconst 0, 1) := by decide +kernel
theorem dX4_readsRoad_57 : decode cX4_readsRoad 57 = .ok (.iaload, 1) := by decide +kernel
theorem dX4_readsRoad_58 : decode cX4_readsRoad 58 = .ok (.iconst 1, 1) := by decide +kernel
theorem dX4_readsRoad_59 : decode cX4_readsRoad 59 = .ok (.isub, 1) := by decide +kernel
theorem dX4_readsRoad_60 : decode cX4_readsRoad 60 = .ok (.invokestatic 67, 3) := by decide +kernel
theorem dX4_readsRoad_63 : decode cX4_readsRoad 63 = .ok (.ifCond .eq 11, 3) := by decide +kernel
theorem dX4_readsRoad_66 : decode cX4_readsRoad 66 = .ok (.aload_n 0, 1) := by decide +kernel
theorem dX4_readsRoad_67 : decode cX4_readsRoad 67 = .ok (.getfield 94, 3) := by decide +kernel
theorem dX4_readsRoad_70 : decode cX4_readsRoad 70 = .ok (.iload_n 1, 1) := by decide +kernel
theorem dX4_readsRoad_71 : decode cX4_readsRoad 71 = .ok (.if_icmp .ne 5, 3) := by decide +kernel
theorem dX4_readsRoad_74 : decode cX4_readsRoad 74 = .ok (.iconst 0, 1) := by decide +kernel
theorem dX4_readsRoad_75 : decode cX4_readsRoad 75 = .ok (.ireturn, 1) := by decide +kernel
theorem dX4_readsRoad_76 : decode cX4_readsRoad 76 = .ok (.aload_n 0, 1) := by decide +kernel
theorem dX4_readsRoad_77 : decode cX4_readsRoad 77 = .ok (.getfield 16, 3) := by decide +kernel
theorem dX4_readsRoad_80 : decode cX4_readsRoad 80 = .ok (.bipush 6, 2) := by decide +kernel
theorem dX4_readsRoad_82 : decode cX4_readsRoad 82 = .ok (.iload_n 1, 1) := by decide +kernel
theorem dX4_readsRoad_83 : decode cX4_readsRoad 83 = .ok (.iadd, 1) := by decide +kernel
theorem dX4_readsRoad_84 : decode cX4_readsRoad 84 = .ok (.dup2, 1) := by decide +kernel
theorem dX4_readsRoad_85 : decode cX4_readsRoad 85 = .ok (.iaload, 1) := by decide +kernel
theorem dX4_readsRoad_86 : decode cX4_readsRoad 86 = .ok (.iconst 1, 1) := by decide +kernel
theorem dX4_readsRoad_87 : decode cX4_readsRoad 87 = .ok (.aload_n 0, 1) := by decide +kernel
theorem dX4_readsRoad_88 : decode cX4_readsRoad 88 = .ok (.getfield 94, 3) := by decide +kernel
theorem dX4_readsRoad_91 : decode cX4_readsRoad 91 = .ok (.ishl, 1) := by decide +kernel
theorem dX4_readsRoad_92 : decode cX4_readsRoad 92 = .ok (.ior, 1) := by decide +kernel
theorem dX4_readsRoad_93 : decode cX4_readsRoad 93 = .ok (.iastore, 1) := by decide +kernel
theorem dX4_readsRoad_94 : decode cX4_readsRoad 94 = .ok (.aload_n 0, 1) := by decide +kernel
theorem dX4_readsRoad_95 : decode cX4_readsRoad 95 = .ok (.getfield 16, 3) := by decide +kernel
theorem dX4_readsRoad_98 : decode cX4_readsRoad 98 = .ok (.bipush 6, 2) := by decide +kernel
theorem dX4_readsRoad_100 : decode cX4_readsRoad 100 = .ok (.aload_n 0, 1) := by decide +kernel
theorem dX4_readsRoad_101 : decode cX4_readsRoad 101 = .ok (.getfield 94, 3) := by decide +kernel
theorem dX4_readsRoad_104 : decode cX4_readsRoad 104 = .ok (.iadd, 1) := by decide +kernel
theorem dX4_readsRoad_105 : decode cX4_readsRoad 105 = .ok (.dup2, 1) := by decide +kernel
theorem dX4_readsRoad_106 : decode cX4_readsRoad 106 = .ok (.iaload, 1) := by decide +kernel
theorem dX4_readsRoad_107 : decode cX4_readsRoad 107 = .ok (.iconst 1, 1) := by decide +kernel
theorem dX4_readsRoad_108 : decode cX4_readsRoad 108 = .ok (.iload_n 1, 1) := by decide +kernel
theorem dX4_readsRoad_109 : decode cX4_readsRoad 109 = .ok (.ishl, 1) := by decide +kernel
theorem dX4_readsRoad_110 : decode cX4_readsRoad 110 = .ok (.ior, 1) := by decide +kernel
theorem dX4_readsRoad_111 : decode cX4_readsRoad 111 = .ok (.iastore, 1) := by decide +kernel
theorem dX4_readsRoad_112 : decode cX4_readsRoad 112 = .ok (.iconst 1, 1) := by decide +kernel
theorem dX4_readsRoad_113 : decode cX4_readsRoad 113 = .ok (.ireturn, 1) := by decide +kernel
theorem dX4_readsBeds_0 : decode cX4_readsBeds 0 = .ok (.aload_n 0, 1) := by decide +kernel
theorem dX4_readsBeds_1 : decode cX4_readsBeds 1 = .ok (.invokevirtual 97, 3) := by decide +kernel
theorem dX4_readsBeds_4 : decode cX4_readsBeds 4 = .ok (.aload_n 0, 1) := by decide +kernel
theorem dX4_readsBeds_5 : decode cX4_readsBeds 5 = .ok (.getfield 91, 3) := by decide +kernel
theorem dX4_readsBeds_8 : decode cX4_readsBeds 8 = .ok (.iconst 2, 1) := by decide +kernel
theorem dX4_readsBeds_9 : decode cX4_readsBeds 9 = .ok (.if_icmp .ne 43, 3) := by decide +kernel
theorem dX4_readsBeds_12 : decode cX4_readsBeds 12 = .ok (.aload_n 0, 1) := by decide +kernel
theorem dX4_readsBeds_13 : decode cX4_readsBeds 13 = .ok (.getfield 94, 3) := by decide +kernel
theorem dX4_readsBeds_16 : decode cX4_readsBeds 16 = .ok (.iconst 0, 1) := by decide +kernel
theorem dX4_readsBeds_17 : decode cX4_readsBeds 17 = .ok (.aload_n 0, 1) := by decide +kernel
theorem dX4_readsBeds_18 : decode cX4_readsBeds 18 = .ok (.getfield 16, 3) := by decide +kernel
theorem dX4_readsBeds_21 : decode cX4_readsBeds 21 = .ok (.iconst 0, 1) := by decide +kernel
theorem dX4_readsBeds_22 : decode cX4_readsBeds 22 = .ok (.iaload, 1) := by decide +kernel
theorem dX4_readsBeds_23 : decode cX4_readsBeds 23 = .ok (.iconst 1, 1) := by decide +kernel
theorem dX4_readsBeds_24 : decode cX4_readsBeds 24 = .ok (.isub, 1) := by decide +kernel
theorem dX4_readsBeds_25 : decode cX4_readsBeds 25 = .ok (.invokestatic 67, 3) := by decide +kernel
theorem dX4_readsBeds_28 : decode cX4_readsBeds 28 = .ok (.ifCond .eq 24, 3) := by decide +kernel
theorem dX4_readsBeds_31 : decode cX4_readsBeds 31 = .ok (.aload_n 0, 1) := by decide +kernel
theorem dX4_readsBeds_32 : decode cX4_readsBeds 32 = .ok (.bipush 10, 2) := by decide +kernel
theorem dX4_readsBeds_34 : decode cX4_readsBeds 34 = .ok (.aload_n 0, 1) := by decide +kernel
theorem dX4_readsBeds_35 : decode cX4_readsBeds 35 = .ok (.getfield 94, 3) := by decide +kernel
theorem dX4_readsBeds_38 : decode cX4_readsBeds 38 = .ok (.iadd, 1) := by decide +kernel
theorem dX4_readsBeds_39 : decode cX4_readsBeds 39 = .ok (.iconst 0, 1) := by decide +kernel
theorem dX4_readsBeds_40 : decode cX4_readsBeds 40 = .ok (.bipush 6, 2) := by decide +kernel
theorem dX4_readsBeds_42 : decode cX4_readsBeds 42 = .ok (.invokevirtual 100, 3) := by decide +kernel
theorem dX4_readsBeds_45 : decode cX4_readsBeds 45 = .ok (.ifCond .eq 7, 3) := by decide +kernel
theorem dX4_readsBeds_48 : decode cX4_readsBeds 48 = .ok (.iconst 1, 1) := by decide +kernel
theorem dX4_readsBeds_49 : decode cX4_readsBeds 49 = .ok (.goto 4, 3) := by decide +kernel
theorem dX4_readsBeds_52 : decode cX4_readsBeds 52 = .ok (.iconst 0, 1) := by decide +kernel
theorem dX4_readsBeds_53 : decode cX4_readsBeds 53 = .ok (.ireturn, 1) := by decide +kernel
theorem dX4_readsCitizen_0 : decode cX4_readsCitizen 0 = .ok (.aload_n 0, 1) := by decide +kernel
theorem dX4_readsCitizen_1 : decode cX4_readsCitizen 1 = .ok (.getfield 16, 3) := by decide +kernel
theorem dX4_readsCitizen_4 : decode cX4_readsCitizen 4 = .ok (.iconst 2, 1) := by decide +kernel
theorem dX4_readsCitizen_5 : decode cX4_readsCitizen 5 = .ok (.iaload, 1) := by decide +kernel
theorem dX4_readsCitizen_6 : decode cX4_readsCitizen 6 = .ok (.istore_n 1, 1) := by decide +kernel
theorem dX4_readsCitizen_7 : decode cX4_readsCitizen 7 = .ok (.iload_n 1, 1) := by decide +kernel
theorem dX4_readsCitizen_8 : decode cX4_readsCitizen 8 = .ok (.bipush 6, 2) := by decide +kernel
theorem dX4_readsCitizen_10 : decode cX4_readsCitizen 10 = .ok (.if_icmp .eq 66, 3) := by decide +kernel
theorem dX4_readsCitizen_13 : decode cX4_readsCitizen 13 = .ok (.aload_n 0, 1) := by decide +kernel
theorem dX4_readsCitizen_14 : decode cX4_readsCitizen 14 = .ok (.bipush 14, 2) := by decide +kernel
theorem dX4_readsCitizen_16 : decode cX4_readsCitizen 16 = .ok (.iload_n 1, 1) := by decide +kernel
theorem dX4_readsCitizen_17 : decode cX4_readsCitizen 17 = .ok (.iadd, 1) := by decide +kernel
theorem dX4_readsCitizen_18 : decode cX4_readsCitizen 18 = .ok (.iconst 0, 1) := by decide +kernel
theorem dX4_readsCitizen_19 : decode cX4_readsCitizen 19 = .ok (.aload_n 0, 1) := by decide +kernel
theorem dX4_readsCitizen_20 : decode cX4_readsCitizen 20 = .ok (.getfield 16, 3) := by decide +kernel
theorem dX4_readsCitizen_23 : decode cX4_readsCitizen 23 = .ok (.iconst 0, 1) := by decide +kernel
theorem dX4_readsCitizen_24 : decode cX4_readsCitizen 24 = .ok (.iaload, 1) := by decide +kernel
theorem dX4_readsCitizen_25 : decode cX4_readsCitizen 25 = .ok (.iconst 1, 1) := by decide +kernel
theorem dX4_readsCitizen_26 : decode cX4_readsCitizen 26 = .ok (.isub, 1) := by decide +kernel
theorem dX4_readsCitizen_27 : decode cX4_readsCitizen 27 = .ok (.invokevirtual 100, 3) := by decide +kernel
theorem dX4_readsCitizen_30 : decode cX4_readsCitizen 30 = .ok (.ifCond .eq 46, 3) := by decide +kernel
theorem dX4_readsCitizen_33 : decode cX4_readsCitizen 33 = .ok (.aload_n 0, 1) := by decide +kernel
theorem dX4_readsCitizen_34 : decode cX4_readsCitizen 34 = .ok (.bipush 20, 2) := by decide +kernel
theorem dX4_readsCitizen_36 : decode cX4_readsCitizen 36 = .ok (.iload_n 1, 1) := by decide +kernel
theorem dX4_readsCitizen_37 : decode cX4_readsCitizen 37 = .ok (.iadd, 1) := by decide +kernel
theorem dX4_readsCitizen_38 : decode cX4_readsCitizen 38 = .ok (.iconst 0, 1) := by decide +kernel
theorem dX4_readsCitizen_39 : decode cX4_readsCitizen 39 = .ok (.bipush 20, 2) := by decide +kernel
theorem dX4_readsCitizen_41 : decode cX4_readsCitizen 41 = .ok (.invokevirtual 100, 3) := by decide +kernel
theorem dX4_readsCitizen_44 : decode cX4_readsCitizen 44 = .ok (.ifCond .eq 32, 3) := by decide +kernel
theorem dX4_readsCitizen_47 : decode cX4_readsCitizen 47 = .ok (.aload_n 0, 1) := by decide +kernel
theorem dX4_readsCitizen_48 : decode cX4_readsCitizen 48 = .ok (.bipush 26, 2) := by decide +kernel
theorem dX4_readsCitizen_50 : decode cX4_readsCitizen 50 = .ok (.iload_n 1, 1) := by decide +kernel
theorem dX4_readsCitizen_51 : decode cX4_readsCitizen 51 = .ok (.iadd, 1) := by decide +kernel
theorem dX4_readsCitizen_52 : decode cX4_readsCitizen 52 = .ok (.iconst 0, 1) := by decide +kernel
theorem dX4_readsCitizen_53 : decode cX4_readsCitizen 53 = .ok (.sipush 255, 3) := by decide +kernel
theorem dX4_readsCitizen_56 : decode cX4_readsCitizen 56 = .ok (.invokevirtual 100, 3) := by decide +kernel
theorem dX4_readsCitizen_59 : decode cX4_readsCitizen 59 = .ok (.ifCond .eq 17, 3) := by decide +kernel
theorem dX4_readsCitizen_62 : decode cX4_readsCitizen 62 = .ok (.aload_n 0, 1) := by decide +kernel
theorem dX4_readsCitizen_63 : decode cX4_readsCitizen 63 = .ok (.bipush 32, 2) := by decide +kernel
theorem dX4_readsCitizen_65 : decode cX4_readsCitizen 65 = .ok (.iload_n 1, 1) := by decide +kernel
theorem dX4_readsCitizen_66 : decode cX4_readsCitizen 66 = .ok (.iadd, 1) := by decide +kernel
theorem dX4_readsCitizen_67 : decode cX4_readsCitizen 67 = .ok (.iconst 1, 1) := by decide +kernel
theorem dX4_readsCitizen_68 : decode cX4_readsCitizen 68 = .ok (.bipush 9, 2) := by decide +kernel
theorem dX4_readsCitizen_70 : decode cX4_readsCitizen 70 = .ok (.invokevirtual 100, 3) := by decide +kernel
theorem dX4_readsCitizen_73 : decode cX4_readsCitizen 73 = .ok (.ifCond .ne 5, 3) := by decide +kernel
theorem dX4_readsCitizen_76 : decode cX4_readsCitizen 76 = .ok (.iconst 0, 1) := by decide +kernel
theorem dX4_readsCitizen_77 : decode cX4_readsCitizen 77 = .ok (.ireturn, 1) := by decide +kernel
theorem dX4_readsCitizen_78 : decode cX4_readsCitizen 78 = .ok (.aload_n 0, 1) := by decide +kernel
theorem dX4_readsCitizen_79 : decode cX4_readsCitizen 79 = .ok (.getfield 16, 3) := by decide +kernel
theorem dX4_readsCitizen_82 : decode cX4_readsCitizen 82 = .ok (.iconst 2, 1) := by decide +kernel
theorem dX4_readsCitizen_83 : decode cX4_readsCitizen 83 = .ok (.dup2, 1) := by decide +kernel
theorem dX4_readsCitizen_84 : decode cX4_readsCitizen 84 = .ok (.iaload, 1) := by decide +kernel
theorem dX4_readsCitizen_85 : decode cX4_readsCitizen 85 = .ok (.iconst 1, 1) := by decide +kernel
theorem dX4_readsCitizen_86 : decode cX4_readsCitizen 86 = .ok (.iadd, 1) := by decide +kernel
theorem dX4_readsCitizen_87 : decode cX4_readsCitizen 87 = .ok (.iastore, 1) := by decide +kernel
theorem dX4_readsCitizen_88 : decode cX4_readsCitizen 88 = .ok (.iconst 1, 1) := by decide +kernel
theorem dX4_readsCitizen_89 : decode cX4_readsCitizen 89 = .ok (.ireturn, 1) := by decide +kernel
theorem dX4_readsNoise_0 : decode cX4_readsNoise 0 = .ok (.aload_n 0, 1) := by decide +kernel
theorem dX4_readsNoise_1 : decode cX4_readsNoise 1 = .ok (.getfield 16, 3) := by decide +kernel
theorem dX4_readsNoise_4 : decode cX4_readsNoise 4 = .ok (.iconst 3, 1) := by decide +kernel
theorem dX4_readsNoise_5 : decode cX4_readsNoise 5 = .ok (.iaload, 1) := by decide +kernel
theorem dX4_readsNoise_6 : decode cX4_readsNoise 6 = .ok (.istore_n 1, 1) := by decide +kernel
theorem dX4_readsNoise_7 : decode cX4_readsNoise 7 = .ok (.iload_n 1, 1) := by decide +kernel
theorem dX4_readsNoise_8 : decode cX4_readsNoise 8 = .ok (.bipush 6, 2) := by decide +kernel
theorem dX4_readsNoise_10 : decode cX4_readsNoise 10 = .ok (.if_icmp .eq 51, 3) := by decide +kernel
theorem dX4_readsNoise_13 : decode cX4_readsNoise 13 = .ok (.aload_n 0, 1) := by decide +kernel
theorem dX4_readsNoise_14 : decode cX4_readsNoise 14 = .ok (.bipush 38, 2) := by decide +kernel
theorem dX4_readsNoise_16 : decode cX4_readsNoise 16 = .ok (.iload_n 1, 1) := by decide +kernel
theorem dX4_readsNoise_17 : decode cX4_readsNoise 17 = .ok (.iadd, 1) := by decide +kernel
theorem dX4_readsNoise_18 : decode cX4_readsNoise 18 = .ok (.iconst 0, 1) := by decide +kernel
theorem dX4_readsNoise_19 : decode cX4_readsNoise 19 = .ok (.aload_n 0, 1) := by decide +kernel
theorem dX4_readsNoise_20 : decode cX4_readsNoise 20 = .ok (.getfield 16, 3) := by decide +kernel
theorem dX4_readsNoise_23 : decode cX4_readsNoise 23 = .ok (.iconst 0, 1) := by decide +kernel
theorem dX4_readsNoise_24 : decode cX4_readsNoise 24 = .ok (.iaload, 1) := by decide +kernel
theorem dX4_readsNoise_25 : decode cX4_readsNoise 25 = .ok (.iconst 1, 1) := by decide +kernel
theorem dX4_readsNoise_26 : decode cX4_readsNoise 26 = .ok (.isub, 1) := by decide +kernel
theorem dX4_readsNoise_27 : decode cX4_readsNoise 27 = .ok (.invokevirtual 100, 3) := by decide +kernel
theorem dX4_readsNoise_30 : decode cX4_readsNoise 30 = .ok (.ifCond .eq 31, 3) := by decide +kernel
theorem dX4_readsNoise_33 : decode cX4_readsNoise 33 = .ok (.aload_n 0, 1) := by decide +kernel
theorem dX4_readsNoise_34 : decode cX4_readsNoise 34 = .ok (.bipush 44, 2) := by decide +kernel
theorem dX4_readsNoise_36 : decode cX4_readsNoise 36 = .ok (.iload_n 1, 1) := by decide +kernel
theorem dX4_readsNoise_37 : decode cX4_readsNoise 37 = .ok (.iadd, 1) := by decide +kernel
theorem dX4_readsNoise_38 : decode cX4_readsNoise 38 = .ok (.iconst 0, 1) := by decide +kernel
theorem dX4_readsNoise_39 : decode cX4_readsNoise 39 = .ok (.bipush 7, 2) := by decide +kernel
theorem dX4_readsNoise_41 : decode cX4_readsNoise 41 = .ok (.invokevirtual 100, 3) := by decide +kernel
theorem dX4_readsNoise_44 : decode cX4_readsNoise 44 = .ok (.ifCond .eq 17, 3) := by decide +kernel
theorem dX4_readsNoise_47 : decode cX4_readsNoise 47 = .ok (.aload_n 0, 1) := by decide +kernel
theorem dX4_readsNoise_48 : decode cX4_readsNoise 48 = .ok (.bipush 50, 2) := by decide +kernel
theorem dX4_readsNoise_50 : decode cX4_readsNoise 50 = .ok (.iload_n 1, 1) := by decide +kernel
theorem dX4_readsNoise_51 : decode cX4_readsNoise 51 = .ok (.iadd, 1) := by decide +kernel
theorem dX4_readsNoise_52 : decode cX4_readsNoise 52 = .ok (.iconst 1, 1) := by decide +kernel
theorem dX4_readsNoise_53 : decode cX4_readsNoise 53 = .ok (.bipush 9, 2) := by decide +kernel
theorem dX4_readsNoise_55 : decode cX4_readsNoise 55 = .ok (.invokevirtual 100, 3) := by decide +kernel
theorem dX4_readsNoise_58 : decode cX4_readsNoise 58 = .ok (.ifCond .ne 5, 3) := by decide +kernel
theorem dX4_readsNoise_61 : decode cX4_readsNoise 61 = .ok (.iconst 0, 1) := by decide +kernel
theorem dX4_readsNoise_62 : decode cX4_readsNoise 62 = .ok (.ireturn, 1) := by decide +kernel
theorem dX4_readsNoise_63 : decode cX4_readsNoise 63 = .ok (.aload_n 0, 1) := by decide +kernel
theorem dX4_readsNoise_64 : decode cX4_readsNoise 64 = .ok (.getfield 16, 3) := by decide +kernel
theorem dX4_readsNoise_67 : decode cX4_readsNoise 67 = .ok (.iconst 3, 1) := by decide +kernel
theorem dX4_readsNoise_68 : decode cX4_readsNoise 68 = .ok (.dup2, 1) := by decide +kernel
theorem dX4_readsNoise_69 : decode cX4_readsNoise 69 = .ok (.iaload, 1) := by decide +kernel
theorem dX4_readsNoise_70 : decode cX4_readsNoise 70 = .ok (.iconst 1, 1) := by decide +kernel
theorem dX4_readsNoise_71 : decode cX4_readsNoise 71 = .ok (.iadd, 1) := by decide +kernel
theorem dX4_readsNoise_72 : decode cX4_readsNoise 72 = .ok (.iastore, 1) := by decide +kernel
theorem dX4_readsNoise_73 : decode cX4_readsNoise 73 = .ok (.iconst 1, 1) := by decide +kernel
theorem dX4_readsNoise_74 : decode cX4_readsNoise 74 = .ok (.ireturn, 1) := by decide +kernel
theorem dX4_readsItem_0 : decode cX4_readsItem 0 = .ok (.aload_n 0, 1) := by decide +kernel
theorem dX4_readsItem_1 : decode cX4_readsItem 1 = .ok (.getfield 91, 3) := by decide +kernel
theorem dX4_readsItem_4 : decode cX4_readsItem 4 = .ok (.iconst 1, 1) := by decide +kernel
theorem dX4_readsItem_5 : decode cX4_readsItem 5 = .ok (.if_icmp .ne 10, 3) := by decide +kernel
theorem dX4_readsItem_8 : decode cX4_readsItem 8 = .ok (.aload_n 0, 1) := by decide +kernel
theorem dX4_readsItem_9 : decode cX4_readsItem 9 = .ok (.getfield 94, 3) := by decide +kernel
theorem dX4_readsItem_12 : decode cX4_readsItem 12 = .ok (.goto 4, 3) := by decide +kernel
theorem dX4_readsItem_15 : decode cX4_readsItem 15 = .ok (.iconst 0, 1) := by decide +kernel
theorem dX4_readsItem_16 : decode cX4_readsItem 16 = .ok (.istore_n 1, 1) := by decide +kernel
theorem dX4_readsItem_17 : decode cX4_readsItem 17 = .ok (.iload_n 1, 1) := by decide +kernel
theorem dX4_readsItem_18 : decode cX4_readsItem 18 = .ok (.tableswitch 108 98 113 #[93, 98, 78, 88, 108, 108, 108, 108, 108, 108, 108, 108, 103, 108, 108, 83], 78) := by decide +kernel
theorem dX4_readsItem_96 : decode cX4_readsItem 96 = .ok (.aload_n 0, 1) := by decide +kernel
theorem dX4_readsItem_97 : decode cX4_readsItem 97 = .ok (.invokevirtual 103, 3) := by decide +kernel
theorem dX4_readsItem_100 : decode cX4_readsItem 100 = .ok (.ireturn, 1) := by decide +kernel
theorem dX4_readsItem_101 : decode cX4_readsItem 101 = .ok (.aload_n 0, 1) := by decide +kernel
theorem dX4_readsItem_102 : decode cX4_readsItem 102 = .ok (.invokevirtual 106, 3) := by decide +kernel
theorem dX4_readsItem_105 : decode cX4_readsItem 105 = .ok (.ireturn, 1) := by decide +kernel
theorem dX4_readsItem_106 : decode cX4_readsItem 106 = .ok (.aload_n 0, 1) := by decide +kernel
theorem dX4_readsItem_107 : decode cX4_readsItem 107 = .ok (.invokevirtual 109, 3) := by decide +kernel
theorem dX4_readsItem_110 : decode cX4_readsItem 110 = .ok (.ireturn, 1) := by decide +kernel
theorem dX4_readsItem_111 : decode cX4_readsItem 111 = .ok (.aload_n 0, 1) := by decide +kernel
theorem dX4_readsItem_112 : decode cX4_readsItem 112 = .ok (.invokevirtual 112, 3) := by decide +kernel
theorem dX4_readsItem_115 : decode cX4_readsItem 115 = .ok (.ireturn, 1) := by decide +kernel
theorem dX4_readsItem_116 : decode cX4_readsItem 116 = .ok (.aload_n 0, 1) := by decide +kernel
theorem dX4_readsItem_117 : decode cX4_readsItem 117 = .ok (.invokevirtual 115, 3) := by decide +kernel
theorem dX4_readsItem_120 : decode cX4_readsItem 120 = .ok (.ireturn, 1) := by decide +kernel
theorem dX4_readsItem_121 : decode cX4_readsItem 121 = .ok (.aload_n 0, 1) := by decide +kernel
theorem dX4_readsItem_122 : decode cX4_readsItem 122 = .ok (.invokevirtual 118, 3) := by decide +kernel
theorem dX4_readsItem_125 : decode cX4_readsItem 125 = .ok (.ireturn, 1) := by decide +kernel
theorem dX4_readsItem_126 : decode cX4_readsItem 126 = .ok (.iconst 0, 1) := by decide +kernel
theorem dX4_readsItem_127 : decode cX4_readsItem 127 = .ok (.ireturn, 1) := by decide +kernel
theorem dX4_reads_0 : decode cX4_reads 0 = .ok (.iconst 0, 1) := by decide +kernel
theorem dX4_reads_1 : decode cX4_reads 1 = .ok (.istore_n 1, 1) := by decide +kernel
theorem dX4_reads_2 : decode cX4_reads 2 = .ok (.iload_n 1, 1) := by decide +kernel
theorem dX4_reads_3 : decode cX4_reads 3 = .ok (.bipush 56, 2) := by decide +kernel
theorem dX4_reads_5 : decode cX4_reads 5 = .ok (.if_icmp .ge 32, 3) := by decide +kernel
theorem dX4_reads_8 : decode cX4_reads 8 = .ok (.aload_n 0, 1) := by decide +kernel
theorem dX4_reads_9 : decode cX4_reads 9 = .ok (.getfield 16, 3) := by decide +kernel
theorem dX4_reads_12 : decode cX4_reads 12 = .ok (.iload_n 1, 1) := by decide +kernel
theorem dX4_reads_13 : decode cX4_reads 13 = .ok (.iload_n 1, 1) := by decide +kernel
theorem dX4_reads_14 : decode cX4_reads 14 = .ok (.bipush 10, 2) := by decide +kernel
theorem dX4_reads_16 : decode cX4_reads 16 = .ok (.bipush 13, 2) := by decide +kernel
theorem dX4_reads_18 : decode cX4_reads 18 = .ok (.invokestatic 67, 3) := by decide +kernel
theorem dX4_reads_21 : decode cX4_reads 21 = .ok (.ifCond .eq 8, 3) := by decide +kernel
theorem dX4_reads_24 : decode cX4_reads 24 = .ok (.bipush 6, 2) := by decide +kernel
theorem dX4_reads_26 : decode cX4_reads 26 = .ok (.goto 4, 3) := by decide +kernel
theorem dX4_reads_29 : decode cX4_reads 29 = .ok (.iconst 0, 1) := by decide +kernel
theorem dX4_reads_30 : decode cX4_reads 30 = .ok (.iastore, 1) := by decide +kernel
theorem dX4_reads_31 : decode cX4_reads 31 = .ok (.iinc 1 1, 3) := by decide +kernel
theorem dX4_reads_34 : decode cX4_reads 34 = .ok (.goto (-32), 3) := by decide +kernel
theorem dX4_reads_37 : decode cX4_reads 37 = .ok (.aload_n 0, 1) := by decide +kernel
theorem dX4_reads_38 : decode cX4_reads 38 = .ok (.getfield 16, 3) := by decide +kernel
theorem dX4_reads_41 : decode cX4_reads 41 = .ok (.iconst 0, 1) := by decide +kernel
theorem dX4_reads_42 : decode cX4_reads 42 = .ok (.iconst 1, 1) := by decide +kernel
theorem dX4_reads_43 : decode cX4_reads 43 = .ok (.iastore, 1) := by decide +kernel
theorem dX4_reads_44 : decode cX4_reads 44 = .ok (.aload_n 0, 1) := by decide +kernel
theorem dX4_reads_45 : decode cX4_reads 45 = .ok (.getfield 16, 3) := by decide +kernel
theorem dX4_reads_48 : decode cX4_reads 48 = .ok (.iconst 1, 1) := by decide +kernel
theorem dX4_reads_49 : decode cX4_reads 49 = .ok (.iconst 1, 1) := by decide +kernel
theorem dX4_reads_50 : decode cX4_reads 50 = .ok (.iastore, 1) := by decide +kernel
theorem dX4_reads_51 : decode cX4_reads 51 = .ok (.aload_n 0, 1) := by decide +kernel
theorem dX4_reads_52 : decode cX4_reads 52 = .ok (.iconst 0, 1) := by decide +kernel
theorem dX4_reads_53 : decode cX4_reads 53 = .ok (.putfield 74, 3) := by decide +kernel
theorem dX4_reads_56 : decode cX4_reads 56 = .ok (.aload_n 0, 1) := by decide +kernel
theorem dX4_reads_57 : decode cX4_reads 57 = .ok (.invokevirtual 97, 3) := by decide +kernel
theorem dX4_reads_60 : decode cX4_reads 60 = .ok (.aload_n 0, 1) := by decide +kernel
theorem dX4_reads_61 : decode cX4_reads 61 = .ok (.getfield 91, 3) := by decide +kernel
theorem dX4_reads_64 : decode cX4_reads 64 = .ok (.ifCond .eq 43, 3) := by decide +kernel
theorem dX4_reads_67 : decode cX4_reads 67 = .ok (.aload_n 0, 1) := by decide +kernel
theorem dX4_reads_68 : decode cX4_reads 68 = .ok (.invokevirtual 121, 3) := by decide +kernel
theorem dX4_reads_71 : decode cX4_reads 71 = .ok (.ifCond .ne 5, 3) := by decide +kernel
theorem dX4_reads_74 : decode cX4_reads 74 = .ok (.iconst 0, 1) := by decide +kernel
theorem dX4_reads_75 : decode cX4_reads 75 = .ok (.ireturn, 1) := by decide +kernel
theorem dX4_reads_76 : decode cX4_reads 76 = .ok (.aload_n 0, 1) := by decide +kernel
theorem dX4_reads_77 : decode cX4_reads 77 = .ok (.invokevirtual 97, 3) := by decide +kernel
theorem dX4_reads_80 : decode cX4_reads 80 = .ok (.aload_n 0, 1) := by decide +kernel
theorem dX4_reads_81 : decode cX4_reads 81 = .ok (.getfield 91, 3) := by decide +kernel
theorem dX4_reads_84 : decode cX4_reads 84 = .ok (.iconst 3, 1) := by decide +kernel
theorem dX4_reads_85 : decode cX4_reads 85 = .ok (.if_icmp .eq 5, 3) := by decide +kernel
theorem dX4_reads_88 : decode cX4_reads 88 = .ok (.iconst 0, 1) := by decide +kernel
theorem dX4_reads_89 : decode cX4_reads 89 = .ok (.ireturn, 1) := by decide +kernel
theorem dX4_reads_90 : decode cX4_reads 90 = .ok (.aload_n 0, 1) := by decide +kernel
theorem dX4_reads_91 : decode cX4_reads 91 = .ok (.getfield 16, 3) := by decide +kernel
theorem dX4_reads_94 : decode cX4_reads 94 = .ok (.iconst 4, 1) := by decide +kernel
theorem dX4_reads_95 : decode cX4_reads 95 = .ok (.dup2, 1) := by decide +kernel
theorem dX4_reads_96 : decode cX4_reads 96 = .ok (.iaload, 1) := by decide +kernel
theorem dX4_reads_97 : decode cX4_reads 97 = .ok (.iconst 1, 1) := by decide +kernel
theorem dX4_reads_98 : decode cX4_reads 98 = .ok (.iadd, 1) := by decide +kernel
theorem dX4_reads_99 : decode cX4_reads 99 = .ok (.iastore, 1) := by decide +kernel
theorem dX4_reads_100 : decode cX4_reads 100 = .ok (.aload_n 0, 1) := by decide +kernel
theorem dX4_reads_101 : decode cX4_reads 101 = .ok (.invokevirtual 97, 3) := by decide +kernel
theorem dX4_reads_104 : decode cX4_reads 104 = .ok (.goto (-44), 3) := by decide +kernel
theorem dX4_reads_107 : decode cX4_reads 107 = .ok (.iconst 1, 1) := by decide +kernel
theorem dX4_reads_108 : decode cX4_reads 108 = .ok (.ireturn, 1) := by decide +kernel
theorem dX4_begins_0 : decode cX4_begins 0 = .ok (.iconst 0, 1) := by decide +kernel
theorem dX4_begins_1 : decode cX4_begins 1 = .ok (.istore_n 1, 1) := by decide +kernel
theorem dX4_begins_2 : decode cX4_begins 2 = .ok (.iload_n 1, 1) := by decide +kernel
theorem dX4_begins_3 : decode cX4_begins 3 = .ok (.bipush 21, 2) := by decide +kernel
theorem dX4_begins_5 : decode cX4_begins 5 = .ok (.if_icmp .ge 40, 3) := by decide +kernel
theorem dX4_begins_8 : decode cX4_begins 8 = .ok (.aload_n 0, 1) := by decide +kernel
theorem dX4_begins_9 : decode cX4_begins 9 = .ok (.getfield 19, 3) := by decide +kernel
theorem dX4_begins_12 : decode cX4_begins 12 = .ok (.iload_n 1, 1) := by decide +kernel
theorem dX4_begins_13 : decode cX4_begins 13 = .ok (.iload_n 1, 1) := by decide +kernel
theorem dX4_begins_14 : decode cX4_begins 14 = .ok (.iconst 3, 1) := by decide +kernel
theorem dX4_begins_15 : decode cX4_begins 15 = .ok (.bipush 8, 2) := by decide +kernel
theorem dX4_begins_17 : decode cX4_begins 17 = .ok (.invokestatic 67, 3) := by decide +kernel
theorem dX4_begins_20 : decode cX4_begins 20 = .ok (.ifCond .eq 17, 3) := by decide +kernel
theorem dX4_begins_23 : decode cX4_begins 23 = .ok (.aload_n 0, 1) := by decide +kernel
theorem dX4_begins_24 : decode cX4_begins 24 = .ok (.getfield 13, 3) := by decide +kernel
theorem dX4_begins_27 : decode cX4_begins 27 = .ok (.bipush 20, 2) := by decide +kernel
theorem dX4_begins_29 : decode cX4_begins 29 = .ok (.iload_n 1, 1) := by decide +kernel
theorem dX4_begins_30 : decode cX4_begins 30 = .ok (.iadd, 1) := by decide +kernel
theorem dX4_begins_31 : decode cX4_begins 31 = .ok (.iconst 3, 1) := by decide +kernel
theorem dX4_begins_32 : decode cX4_begins 32 = .ok (.isub, 1) := by decide +kernel
theorem dX4_begins_33 : decode cX4_begins 33 = .ok (.iaload, 1) := by decide +kernel
theorem dX4_begins_34 : decode cX4_begins 34 = .ok (.goto 4, 3) := by decide +kernel
theorem dX4_begins_37 : decode cX4_begins 37 = .ok (.iconst 0, 1) := by decide +kernel
theorem dX4_begins_38 : decode cX4_begins 38 = .ok (.iastore, 1) := by decide +kernel
theorem dX4_begins_39 : decode cX4_begins 39 = .ok (.iinc 1 1, 3) := by decide +kernel
theorem dX4_begins_42 : decode cX4_begins 42 = .ok (.goto (-40), 3) := by decide +kernel
theorem dX4_begins_45 : decode cX4_begins 45 = .ok (.return_, 1) := by decide +kernel
theorem dX4_tells_0 : decode cX4_tells 0 = .ok (.iconst 0, 1) := by decide +kernel
theorem dX4_tells_1 : decode cX4_tells 1 = .ok (.istore_n 1, 1) := by decide +kernel
theorem dX4_tells_2 : decode cX4_tells 2 = .ok (.iload_n 1, 1) := by decide +kernel
theorem dX4_tells_3 : decode cX4_tells 3 = .ok (.bipush 56, 2) := by decide +kernel
theorem dX4_tells_5 : decode cX4_tells 5 = .ok (.if_icmp .ge 21, 3) := by decide +kernel
theorem dX4_tells_8 : decode cX4_tells 8 = .ok (.aload_n 0, 1) := by decide +kernel
theorem dX4_tells_9 : decode cX4_tells 9 = .ok (.getfield 13, 3) := by decide +kernel
theorem dX4_tells_12 : decode cX4_tells 12 = .ok (.iload_n 1, 1) := by decide +kernel
theorem dX4_tells_13 : decode cX4_tells 13 = .ok (.aload_n 0, 1) := by decide +kernel
theorem dX4_tells_14 : decode cX4_tells 14 = .ok (.getfield 16, 3) := by decide +kernel
theorem dX4_tells_17 : decode cX4_tells 17 = .ok (.iload_n 1, 1) := by decide +kernel
theorem dX4_tells_18 : decode cX4_tells 18 = .ok (.iaload, 1) := by decide +kernel
theorem dX4_tells_19 : decode cX4_tells 19 = .ok (.iastore, 1) := by decide +kernel
theorem dX4_tells_20 : decode cX4_tells 20 = .ok (.iinc 1 1, 3) := by decide +kernel
theorem dX4_tells_23 : decode cX4_tells 23 = .ok (.goto (-21), 3) := by decide +kernel
theorem dX4_tells_26 : decode cX4_tells 26 = .ok (.aload_n 0, 1) := by decide +kernel
theorem dX4_tells_27 : decode cX4_tells 27 = .ok (.invokevirtual 124, 3) := by decide +kernel
theorem dX4_tells_30 : decode cX4_tells 30 = .ok (.aload_n 0, 1) := by decide +kernel
theorem dX4_tells_31 : decode cX4_tells 31 = .ok (.iconst 0, 1) := by decide +kernel
theorem dX4_tells_32 : decode cX4_tells 32 = .ok (.putfield 127, 3) := by decide +kernel
theorem dX4_tells_35 : decode cX4_tells 35 = .ok (.aload_n 0, 1) := by decide +kernel
theorem dX4_tells_36 : decode cX4_tells 36 = .ok (.iconst 0, 1) := by decide +kernel
theorem dX4_tells_37 : decode cX4_tells 37 = .ok (.putfield 130, 3) := by decide +kernel
theorem dX4_tells_40 : decode cX4_tells 40 = .ok (.aload_n 0, 1) := by decide +kernel
theorem dX4_tells_41 : decode cX4_tells 41 = .ok (.getfield 28, 3) := by decide +kernel
theorem dX4_tells_44 : decode cX4_tells 44 = .ok (.iconst 0, 1) := by decide +kernel
theorem dX4_tells_45 : decode cX4_tells 45 = .ok (.iconst 0, 1) := by decide +kernel
theorem dX4_tells_46 : decode cX4_tells 46 = .ok (.bastore, 1) := by decide +kernel
theorem dX4_tells_47 : decode cX4_tells 47 = .ok (.aload_n 0, 1) := by decide +kernel
theorem dX4_tells_48 : decode cX4_tells 48 = .ok (.getfield 28, 3) := by decide +kernel
theorem dX4_tells_51 : decode cX4_tells 51 = .ok (.iconst 1, 1) := by decide +kernel
theorem dX4_tells_52 : decode cX4_tells 52 = .ok (.iconst 0, 1) := by decide +kernel
theorem dX4_tells_53 : decode cX4_tells 53 = .ok (.bastore, 1) := by decide +kernel
theorem dX4_tells_54 : decode cX4_tells 54 = .ok (.return_, 1) := by decide +kernel
theorem dX4_city_0 : decode cX4_city 0 = .ok (.aload_n 0, 1) := by decide +kernel
theorem dX4_city_1 : decode cX4_city 1 = .ok (.invokevirtual 60, 3) := by decide +kernel
theorem dX4_city_4 : decode cX4_city 4 = .ok (.ifCond .ne 11, 3) := by decide +kernel
theorem dX4_city_7 : decode cX4_city 7 = .ok (.bipush (-10), 2) := by decide +kernel
theorem dX4_city_9 : decode cX4_city 9 = .ok (.aload_n 0, 1) := by decide +kernel
theorem dX4_city_10 : decode cX4_city 10 = .ok (.getfield 81, 3) := by decide +kernel
theorem dX4_city_13 : decode cX4_city 13 = .ok (.isub, 1) := by decide +kernel
theorem dX4_city_14 : decode cX4_city 14 = .ok (.ireturn, 1) := by decide +kernel
theorem dX4_city_15 : decode cX4_city 15 = .ok (.aload_n 0, 1) := by decide +kernel
theorem dX4_city_16 : decode cX4_city 16 = .ok (.invokevirtual 64, 3) := by decide +kernel
theorem dX4_city_19 : decode cX4_city 19 = .ok (.aload_n 0, 1) := by decide +kernel
theorem dX4_city_20 : decode cX4_city 20 = .ok (.iconst 0, 1) := by decide +kernel
theorem dX4_city_21 : decode cX4_city 21 = .ok (.putfield 71, 3) := by decide +kernel
theorem dX4_city_24 : decode cX4_city 24 = .ok (.aload_n 0, 1) := by decide +kernel
theorem dX4_city_25 : decode cX4_city 25 = .ok (.getfield 13, 3) := by decide +kernel
theorem dX4_city_28 : decode cX4_city 28 = .ok (.iconst 4, 1) := by decide +kernel
theorem dX4_city_29 : decode cX4_city 29 = .ok (.iaload, 1) := by decide +kernel
theorem dX4_city_30 : decode cX4_city 30 = .ok (.ireturn, 1) := by decide +kernel
theorem dX4_district_0 : decode cX4_district 0 = .ok (.aload_n 0, 1) := by decide +kernel
theorem dX4_district_1 : decode cX4_district 1 = .ok (.iload_n 1, 1) := by decide +kernel
theorem dX4_district_2 : decode cX4_district 2 = .ok (.invokevirtual 133, 3) := by decide +kernel
theorem dX4_district_5 : decode cX4_district 5 = .ok (.ifCond .eq 33, 3) := by decide +kernel
theorem dX4_district_8 : decode cX4_district 8 = .ok (.iload_n 2, 1) := by decide +kernel
theorem dX4_district_9 : decode cX4_district 9 = .ok (.iconst 0, 1) := by decide +kernel
theorem dX4_district_10 : decode cX4_district 10 = .ok (.iconst 1, 1) := by decide +kernel
theorem dX4_district_11 : decode cX4_district 11 = .ok (.invokestatic 67, 3) := by decide +kernel
theorem dX4_district_14 : decode cX4_district 14 = .ok (.ifCond .eq 24, 3) := by decide +kernel
theorem dX4_district_17 : decode cX4_district 17 = .ok (.aload_n 0, 1) := by decide +kernel
theorem dX4_district_18 : decode cX4_district 18 = .ok (.getfield 13, 3) := by decide +kernel
theorem dX4_district_21 : decode cX4_district 21 = .ok (.iload_n 2, 1) := by decide +kernel
theorem dX4_district_22 : decode cX4_district 22 = .ok (.ifCond .ne 8, 3) := by decide +kernel
theorem dX4_district_25 : decode cX4_district 25 = .ok (.bipush 10, 2) := by decide +kernel
theorem dX4_district_27 : decode cX4_district 27 = .ok (.goto 5, 3) := by decide +kernel
theorem dX4_district_30 : decode cX4_district 30 = .ok (.bipush 6, 2) := by decide +kernel
theorem dX4_district_32 : decode cX4_district 32 = .ok (.iload_n 1, 1) := by decide +kernel
theorem dX4_district_33 : decode cX4_district 33 = .ok (.iadd, 1) := by decide +kernel
theorem dX4_district_34 : decode cX4_district 34 = .ok (.iaload, 1) := by decide +kernel
theorem dX4_district_35 : decode cX4_district 35 = .ok (.goto 4, 3) := by decide +kernel
theorem dX4_district_38 : decode cX4_district 38 = .ok (.iconst (-1), 1) := by decide +kernel
theorem dX4_district_39 : decode cX4_district 39 = .ok (.ireturn, 1) := by decide +kernel
theorem dX4_citizen_0 : decode cX4_citizen 0 = .ok (.aload_n 0, 1) := by decide +kernel
theorem dX4_citizen_1 : decode cX4_citizen 1 = .ok (.iload_n 1, 1) := by decide +kernel
theorem dX4_citizen_2 : decode cX4_citizen 2 = .ok (.invokevirtual 136, 3) := by decide +kernel
theorem dX4_citizen_5 : decode cX4_citizen 5 = .ok (.ifCond .ne 5, 3) := by decide +kernel
theorem dX4_citizen_8 : decode cX4_citizen 8 = .ok (.iconst (-1), 1) := by decide +kernel
theorem dX4_citizen_9 : decode cX4_citizen 9 = .ok (.ireturn, 1) := by decide +kernel
theorem dX4_citizen_10 : decode cX4_citizen 10 = .ok (.iload_n 2, 1) := by decide +kernel
theorem dX4_citizen_11 : decode cX4_citizen 11 = .ok (.tableswitch 96 0 5 #[37, 47, 56, 66, 76, 86], 37) := by decide +kernel
theorem dX4_citizen_48 : decode cX4_citizen 48 = .ok (.aload_n 0, 1) := by decide +kernel
theorem dX4_citizen_49 : decode cX4_citizen 49 = .ok (.getfield 13, 3) := by decide +kernel
theorem dX4_citizen_52 : decode cX4_citizen 52 = .ok (.bipush 14, 2) := by decide +kernel
theorem dX4_citizen_54 : decode cX4_citizen 54 = .ok (.iload_n 1, 1) := by decide +kernel
theorem dX4_citizen_55 : decode cX4_citizen 55 = .ok (.iadd, 1) := by decide +kernel
theorem dX4_citizen_56 : decode cX4_citizen 56 = .ok (.iaload, 1) := by decide +kernel
theorem dX4_citizen_57 : decode cX4_citizen 57 = .ok (.ireturn, 1) := by decide +kernel
theorem dX4_citizen_58 : decode cX4_citizen 58 = .ok (.aload_n 0, 1) := by decide +kernel
theorem dX4_citizen_59 : decode cX4_citizen 59 = .ok (.getfield 19, 3) := by decide +kernel
theorem dX4_citizen_62 : decode cX4_citizen 62 = .ok (.iconst 3, 1) := by decide +kernel
theorem dX4_citizen_63 : decode cX4_citizen 63 = .ok (.iload_n 1, 1) := by decide +kernel
theorem dX4_citizen_64 : decode cX4_citizen 64 = .ok (.iadd, 1) := by decide +kernel
theorem dX4_citizen_65 : decode cX4_citizen 65 = .ok (.iaload, 1) := by decide +kernel
theorem dX4_citizen_66 : decode cX4_citizen 66 = .ok (.ireturn, 1) := by decide +kernel
theorem dX4_citizen_67 : decode cX4_citizen 67 = .ok (.aload_n 0, 1) := by decide +kernel
theorem dX4_citizen_68 : decode cX4_citizen 68 = .ok (.getfield 13, 3) := by decide +kernel
theorem dX4_citizen_71 : decode cX4_citizen 71 = .ok (.bipush 26, 2) := by decide +kernel
theorem dX4_citizen_73 : decode cX4_citizen 73 = .ok (.iload_n 1, 1) := by decide +kernel
theorem dX4_citizen_74 : decode cX4_citizen 74 = .ok (.iadd, 1) := by decide +kernel
theorem dX4_citizen_75 : decode cX4_citizen 75 = .ok (.iaload, 1) := by decide +kernel
theorem dX4_citizen_76 : decode cX4_citizen 76 = .ok (.ireturn, 1) := by decide +kernel
theorem dX4_citizen_77 : decode cX4_citizen 77 = .ok (.aload_n 0, 1) := by decide +kernel
theorem dX4_citizen_78 : decode cX4_citizen 78 = .ok (.getfield 13, 3) := by decide +kernel
theorem dX4_citizen_81 : decode cX4_citizen 81 = .ok (.bipush 32, 2) := by decide +kernel
theorem dX4_citizen_83 : decode cX4_citizen 83 = .ok (.iload_n 1, 1) := by decide +kernel
theorem dX4_citizen_84 : decode cX4_citizen 84 = .ok (.iadd, 1) := by decide +kernel
theorem dX4_citizen_85 : decode cX4_citizen 85 = .ok (.iaload, 1) := by decide +kernel
theorem dX4_citizen_86 : decode cX4_citizen 86 = .ok (.ireturn, 1) := by decide +kernel
theorem dX4_citizen_87 : decode cX4_citizen 87 = .ok (.aload_n 0, 1) := by decide +kernel
theorem dX4_citizen_88 : decode cX4_citizen 88 = .ok (.getfield 19, 3) := by decide +kernel
theorem dX4_citizen_91 : decode cX4_citizen 91 = .ok (.bipush 9, 2) := by decide +kernel
theorem dX4_citizen_93 : decode cX4_citizen 93 = .ok (.iload_n 1, 1) := by decide +kernel
theorem dX4_citizen_94 : decode cX4_citizen 94 = .ok (.iadd, 1) := by decide +kernel
theorem dX4_citizen_95 : decode cX4_citizen 95 = .ok (.iaload, 1) := by decide +kernel
theorem dX4_citizen_96 : decode cX4_citizen 96 = .ok (.ireturn, 1) := by decide +kernel
theorem dX4_citizen_97 : decode cX4_citizen 97 = .ok (.aload_n 0, 1) := by decide +kernel
theorem dX4_citizen_98 : decode cX4_citizen 98 = .ok (.getfield 19, 3) := by decide +kernel
theorem dX4_citizen_101 : decode cX4_citizen 101 = .ok (.bipush 15, 2) := by decide +kernel
theorem dX4_citizen_103 : decode cX4_citizen 103 = .ok (.iload_n 1, 1) := by decide +kernel
theorem dX4_citizen_104 : decode cX4_citizen 104 = .ok (.iadd, 1) := by decide +kernel
theorem dX4_citizen_105 : decode cX4_citizen 105 = .ok (.iaload, 1) := by decide +kernel
theorem dX4_citizen_106 : decode cX4_citizen 106 = .ok (.ireturn, 1) := by decide +kernel
theorem dX4_citizen_107 : decode cX4_citizen 107 = .ok (.iconst (-1), 1) := by decide +kernel
theorem dX4_citizen_108 : decode cX4_citizen 108 = .ok (.ireturn, 1) := by decide +kernel
theorem dX4_noise_0 : decode cX4_noise 0 = .ok (.iload_n 1, 1) := by decide +kernel
theorem dX4_noise_1 : decode cX4_noise 1 = .ok (.iconst 0, 1) := by decide +kernel
theorem dX4_noise_2 : decode cX4_noise 2 = .ok (.aload_n 0, 1) := by decide +kernel
theorem dX4_noise_3 : decode cX4_noise 3 = .ok (.getfield 13, 3) := by decide +kernel
theorem dX4_noise_6 : decode cX4_noise 6 = .ok (.iconst 3, 1) := by decide +kernel
theorem dX4_noise_7 : decode cX4_noise 7 = .ok (.iaload, 1) := by decide +kernel
theorem dX4_noise_8 : decode cX4_noise 8 = .ok (.iconst 1, 1) := by decide +kernel
theorem dX4_noise_9 : decode cX4_noise 9 = .ok (.isub, 1) := by decide +kernel
theorem dX4_noise_10 : decode cX4_noise 10 = .ok (.invokestatic 67, 3) := by decide +kernel
theorem dX4_noise_13 : decode cX4_noise 13 = .ok (.ifCond .eq 29, 3) := by decide +kernel
theorem dX4_noise_16 : decode cX4_noise 16 = .ok (.iload_n 2, 1) := by decide +kernel
theorem dX4_noise_17 : decode cX4_noise 17 = .ok (.iconst 0, 1) := by decide +kernel
theorem dX4_noise_18 : decode cX4_noise 18 = .ok (.iconst 2, 1) := by decide +kernel
theorem dX4_noise_19 : decode cX4_noise 19 = .ok (.invokestatic 67, 3) := by decide +kernel
theorem dX4_noise_22 : decode cX4_noise 22 = .ok (.ifCond .eq 20, 3) := by decide +kernel
theorem dX4_noise_25 : decode cX4_noise 25 = .ok (.aload_n 0, 1) := by decide +kernel
theorem dX4_noise_26 : decode cX4_noise 26 = .ok (.getfield 13, 3) := by decide +kernel
theorem dX4_noise_29 : decode cX4_noise 29 = .ok (.bipush 38, 2) := by decide +kernel
theorem dX4_noise_31 : decode cX4_noise 31 = .ok (.bipush 6, 2) := by decide +kernel
theorem dX4_noise_33 : decode cX4_noise 33 = .ok (.iload_n 2, 1) := by decide +kernel
theorem dX4_noise_34 : decode cX4_noise 34 = .ok (.imul, 1) := by decide +kernel
theorem dX4_noise_35 : decode cX4_noise 35 = .ok (.iadd, 1) := by decide +kernel
theorem dX4_noise_36 : decode cX4_noise 36 = .ok (.iload_n 1, 1) := by decide +kernel
theorem dX4_noise_37 : decode cX4_noise 37 = .ok (.iadd, 1) := by decide +kernel
theorem dX4_noise_38 : decode cX4_noise 38 = .ok (.iaload, 1) := by decide +kernel
theorem dX4_noise_39 : decode cX4_noise 39 = .ok (.goto 4, 3) := by decide +kernel
theorem dX4_noise_42 : decode cX4_noise 42 = .ok (.iconst (-1), 1) := by decide +kernel
theorem dX4_noise_43 : decode cX4_noise 43 = .ok (.ireturn, 1) := by decide +kernel
theorem dX4_most_0 : decode cX4_most 0 = .ok (.bipush (-9), 2) := by decide +kernel
theorem dX4_most_2 : decode cX4_most 2 = .ok (.istore_n 2, 1) := by decide +kernel
theorem dX4_most_3 : decode cX4_most 3 = .ok (.aload_n 0, 1) := by decide +kernel
theorem dX4_most_4 : decode cX4_most 4 = .ok (.getfield 13, 3) := by decide +kernel
theorem dX4_most_7 : decode cX4_most 7 = .ok (.iconst 2, 1) := by decide +kernel
theorem dX4_most_8 : decode cX4_most 8 = .ok (.iaload, 1) := by decide +kernel
theorem dX4_most_9 : decode cX4_most 9 = .ok (.iconst 1, 1) := by decide +kernel
theorem dX4_most_10 : decode cX4_most 10 = .ok (.isub, 1) := by decide +kernel
theorem dX4_most_11 : decode cX4_most 11 = .ok (.istore_n 3, 1) := by decide +kernel
theorem dX4_most_12 : decode cX4_most 12 = .ok (.iload_n 3, 1) := by decide +kernel
theorem dX4_most_13 : decode cX4_most 13 = .ok (.ifCond .lt 52, 3) := by decide +kernel
theorem dX4_most_16 : decode cX4_most 16 = .ok (.iload_n 2, 1) := by decide +kernel
theorem dX4_most_17 : decode cX4_most 17 = .ok (.ifCond .ge 7, 3) := by decide +kernel
theorem dX4_most_20 : decode cX4_most 20 = .ok (.iload_n 3, 1) := by decide +kernel
theorem dX4_most_21 : decode cX4_most 21 = .ok (.goto 4, 3) := by decide +kernel
theorem dX4_most_24 : decode cX4_most 24 = .ok (.iload_n 2, 1) := by decide +kernel
theorem dX4_most_25 : decode cX4_most 25 = .ok (.istore 4, 2) := by decide +kernel
theorem dX4_most_27 : decode cX4_most 27 = .ok (.iload_n 1, 1) := by decide +kernel
theorem dX4_most_28 : decode cX4_most 28 = .ok (.aload_n 0, 1) := by decide +kernel
theorem dX4_most_29 : decode cX4_most 29 = .ok (.getfield 19, 3) := by decide +kernel
theorem dX4_most_32 : decode cX4_most 32 = .ok (.bipush 15, 2) := by decide +kernel
theorem dX4_most_34 : decode cX4_most 34 = .ok (.iload_n 3, 1) := by decide +kernel
theorem dX4_most_35 : decode cX4_most 35 = .ok (.iadd, 1) := by decide +kernel
theorem dX4_most_36 : decode cX4_most 36 = .ok (.iaload, 1) := by decide +kernel
theorem dX4_most_37 : decode cX4_most 37 = .ok (.imul, 1) := by decide +kernel
theorem dX4_most_38 : decode cX4_most 38 = .ok (.iload_n 1, 1) := by decide +kernel
theorem dX4_most_39 : decode cX4_most 39 = .ok (.aload_n 0, 1) := by decide +kernel
theorem dX4_most_40 : decode cX4_most 40 = .ok (.getfield 19, 3) := by decide +kernel
theorem dX4_most_43 : decode cX4_most 43 = .ok (.bipush 15, 2) := by decide +kernel
theorem dX4_most_45 : decode cX4_most 45 = .ok (.iload 4, 2) := by decide +kernel
theorem dX4_most_47 : decode cX4_most 47 = .ok (.iadd, 1) := by decide +kernel
theorem dX4_most_48 : decode cX4_most 48 = .ok (.iaload, 1) := by decide +kernel
theorem dX4_most_49 : decode cX4_most 49 = .ok (.imul, 1) := by decide +kernel
theorem dX4_most_50 : decode cX4_most 50 = .ok (.if_icmp .lt 7, 3) := by decide +kernel
theorem dX4_most_53 : decode cX4_most 53 = .ok (.iload_n 3, 1) := by decide +kernel
theorem dX4_most_54 : decode cX4_most 54 = .ok (.goto 4, 3) := by decide +kernel
theorem dX4_most_57 : decode cX4_most 57 = .ok (.iload_n 2, 1) := by decide +kernel
theorem dX4_most_58 : decode cX4_most 58 = .ok (.istore_n 2, 1) := by decide +kernel
theorem dX4_most_59 : decode cX4_most 59 = .ok (.iinc 3 (-1), 3) := by decide +kernel
theorem dX4_most_62 : decode cX4_most 62 = .ok (.goto (-50), 3) := by decide +kernel
theorem dX4_most_65 : decode cX4_most 65 = .ok (.iload_n 2, 1) := by decide +kernel
theorem dX4_most_66 : decode cX4_most 66 = .ok (.ireturn, 1) := by decide +kernel
theorem dX4_now_0 : decode cX4_now 0 = .ok (.iload_n 1, 1) := by decide +kernel
theorem dX4_now_1 : decode cX4_now 1 = .ok (.iconst 0, 1) := by decide +kernel
theorem dX4_now_2 : decode cX4_now 2 = .ok (.iconst 5, 1) := by decide +kernel
theorem dX4_now_3 : decode cX4_now 3 = .ok (.invokestatic 67, 3) := by decide +kernel
theorem dX4_now_6 : decode cX4_now 6 = .ok (.ifCond .ne 5, 3) := by decide +kernel
theorem dX4_now_9 : decode cX4_now 9 = .ok (.iconst (-1), 1) := by decide +kernel
theorem dX4_now_10 : decode cX4_now 10 = .ok (.ireturn, 1) := by decide +kernel
theorem dX4_now_11 : decode cX4_now 11 = .ok (.iload_n 1, 1) := by decide +kernel
theorem dX4_now_12 : decode cX4_now 12 = .ok (.iconst 3, 1) := by decide +kernel
theorem dX4_now_13 : decode cX4_now 13 = .ok (.if_icmp .ge 12, 3) := by decide +kernel
theorem dX4_now_16 : decode cX4_now 16 = .ok (.aload_n 0, 1) := by decide +kernel
theorem dX4_now_17 : decode cX4_now 17 = .ok (.getfield 19, 3) := by decide +kernel
theorem dX4_now_20 : decode cX4_now 20 = .ok (.iload_n 1, 1) := by decide +kernel
theorem dX4_now_21 : decode cX4_now 21 = .ok (.iaload, 1) := by decide +kernel
theorem dX4_now_22 : decode cX4_now 22 = .ok (.goto 33, 3) := by decide +kernel
theorem dX4_now_25 : decode cX4_now 25 = .ok (.iload_n 1, 1) := by decide +kernel
theorem dX4_now_26 : decode cX4_now 26 = .ok (.iconst 3, 1) := by decide +kernel
theorem dX4_now_27 : decode cX4_now 27 = .ok (.if_icmp .ne 11, 3) := by decide +kernel
theorem dX4_now_30 : decode cX4_now 30 = .ok (.aload_n 0, 1) := by decide +kernel
theorem dX4_now_31 : decode cX4_now 31 = .ok (.iconst 1, 1) := by decide +kernel
theorem dX4_now_32 : decode cX4_now 32 = .ok (.invokevirtual 139, 3) := by decide +kernel
theorem dX4_now_35 : decode cX4_now 35 = .ok (.goto 20, 3) := by decide +kernel
theorem dX4_now_38 : decode cX4_now 38 = .ok (.iload_n 1, 1) := by decide +kernel
theorem dX4_now_39 : decode cX4_now 39 = .ok (.iconst 4, 1) := by decide +kernel
theorem dX4_now_40 : decode cX4_now 40 = .ok (.if_icmp .ne 11, 3) := by decide +kernel
theorem dX4_now_43 : decode cX4_now 43 = .ok (.aload_n 0, 1) := by decide +kernel
theorem dX4_now_44 : decode cX4_now 44 = .ok (.iconst (-1), 1) := by decide +kernel
theorem dX4_now_45 : decode cX4_now 45 = .ok (.invokevirtual 139, 3) := by decide +kernel
theorem dX4_now_48 : decode cX4_now 48 = .ok (.goto 7, 3) := by decide +kernel
theorem dX4_now_51 : decode cX4_now 51 = .ok (.aload_n 0, 1) := by decide +kernel
theorem dX4_now_52 : decode cX4_now 52 = .ok (.getfield 127, 3) := by decide +kernel
theorem dX4_now_55 : decode cX4_now 55 = .ok (.ireturn, 1) := by decide +kernel
end
section
theorem dX4_keeps_0 : decode cX4_keeps 0 = .ok (.aload_n 0, 1) := by decide +kernel
theorem dX4_keeps_1 : decode cX4_keeps 1 = .ok (.getfield 127, 3) := by decide +kernel
theorem dX4_keeps_4 : decode cX4_keeps 4 = .ok (.bipush 10, 2) := by decide +kernel
theorem dX4_keeps_6 : decode cX4_keeps 6 = .ok (.if_icmp .ne 43, 3) := by decide +kernel
theorem dX4_keeps_9 : decode cX4_keeps 9 = .ok (.iconst 0, 1) := by decide +kernel
theorem dX4_keeps_10 : decode cX4_keeps 10 = .ok (.istore_n 1, 1) := by decide +kernel
theorem dX4_keeps_11 : decode cX4_keeps 11 = .ok (.iload_n 1, 1) := by decide +kernel
theorem dX4_keeps_12 : decode cX4_keeps 12 = .ok (.sipush 189, 3) := by decide +kernel
theorem dX4_keeps_15 : decode cX4_keeps 15 = .ok (.if_icmp .ge 24, 3) := by decide +kernel
theorem dX4_keeps_18 : decode cX4_keeps 18 = .ok (.aload_n 0, 1) := by decide +kernel
theorem dX4_keeps_19 : decode cX4_keeps 19 = .ok (.getfield 22, 3) := by decide +kernel
theorem dX4_keeps_22 : decode cX4_keeps 22 = .ok (.iload_n 1, 1) := by decide +kernel
theorem dX4_keeps_23 : decode cX4_keeps 23 = .ok (.aload_n 0, 1) := by decide +kernel
theorem dX4_keeps_24 : decode cX4_keeps 24 = .ok (.getfield 22, 3) := by decide +kernel
theorem dX4_keeps_27 : decode cX4_keeps 27 = .ok (.iload_n 1, 1) := by decide +kernel
theorem dX4_keeps_28 : decode cX4_keeps 28 = .ok (.bipush 21, 2) := by decide +kernel
theorem dX4_keeps_30 : decode cX4_keeps 30 = .ok (.iadd, 1) := by decide +kernel
theorem dX4_keeps_31 : decode cX4_keeps 31 = .ok (.iaload, 1) := by decide +kernel
theorem dX4_keeps_32 : decode cX4_keeps 32 = .ok (.iastore, 1) := by decide +kernel
theorem dX4_keeps_33 : decode cX4_keeps 33 = .ok (.iinc 1 1, 3) := by decide +kernel
theorem dX4_keeps_36 : decode cX4_keeps 36 = .ok (.goto (-25), 3) := by decide +kernel
theorem dX4_keeps_39 : decode cX4_keeps 39 = .ok (.aload_n 0, 1) := by decide +kernel
theorem dX4_keeps_40 : decode cX4_keeps 40 = .ok (.dup, 1) := by decide +kernel
theorem dX4_keeps_41 : decode cX4_keeps 41 = .ok (.getfield 127, 3) := by decide +kernel
theorem dX4_keeps_44 : decode cX4_keeps 44 = .ok (.iconst 1, 1) := by decide +kernel
theorem dX4_keeps_45 : decode cX4_keeps 45 = .ok (.isub, 1) := by decide +kernel
theorem dX4_keeps_46 : decode cX4_keeps 46 = .ok (.putfield 127, 3) := by decide +kernel
theorem dX4_keeps_49 : decode cX4_keeps 49 = .ok (.iconst 0, 1) := by decide +kernel
theorem dX4_keeps_50 : decode cX4_keeps 50 = .ok (.istore_n 1, 1) := by decide +kernel
theorem dX4_keeps_51 : decode cX4_keeps 51 = .ok (.iload_n 1, 1) := by decide +kernel
theorem dX4_keeps_52 : decode cX4_keeps 52 = .ok (.bipush 21, 2) := by decide +kernel
theorem dX4_keeps_54 : decode cX4_keeps 54 = .ok (.if_icmp .ge 29, 3) := by decide +kernel
theorem dX4_keeps_57 : decode cX4_keeps 57 = .ok (.aload_n 0, 1) := by decide +kernel
theorem dX4_keeps_58 : decode cX4_keeps 58 = .ok (.getfield 22, 3) := by decide +kernel
theorem dX4_keeps_61 : decode cX4_keeps 61 = .ok (.bipush 21, 2) := by decide +kernel
theorem dX4_keeps_63 : decode cX4_keeps 63 = .ok (.aload_n 0, 1) := by decide +kernel
theorem dX4_keeps_64 : decode cX4_keeps 64 = .ok (.getfield 127, 3) := by decide +kernel
theorem dX4_keeps_67 : decode cX4_keeps 67 = .ok (.imul, 1) := by decide +kernel
theorem dX4_keeps_68 : decode cX4_keeps 68 = .ok (.iload_n 1, 1) := by decide +kernel
theorem dX4_keeps_69 : decode cX4_keeps 69 = .ok (.iadd, 1) := by decide +kernel
theorem dX4_keeps_70 : decode cX4_keeps 70 = .ok (.aload_n 0, 1) := by decide +kernel
theorem dX4_keeps_71 : decode cX4_keeps 71 = .ok (.getfield 19, 3) := by decide +kernel
theorem dX4_keeps_74 : decode cX4_keeps 74 = .ok (.iload_n 1, 1) := by decide +kernel
theorem dX4_keeps_75 : decode cX4_keeps 75 = .ok (.iaload, 1) := by decide +kernel
theorem dX4_keeps_76 : decode cX4_keeps 76 = .ok (.iastore, 1) := by decide +kernel
theorem dX4_keeps_77 : decode cX4_keeps 77 = .ok (.iinc 1 1, 3) := by decide +kernel
theorem dX4_keeps_80 : decode cX4_keeps 80 = .ok (.goto (-29), 3) := by decide +kernel
theorem dX4_keeps_83 : decode cX4_keeps 83 = .ok (.aload_n 0, 1) := by decide +kernel
theorem dX4_keeps_84 : decode cX4_keeps 84 = .ok (.dup, 1) := by decide +kernel
theorem dX4_keeps_85 : decode cX4_keeps 85 = .ok (.getfield 127, 3) := by decide +kernel
theorem dX4_keeps_88 : decode cX4_keeps 88 = .ok (.iconst 1, 1) := by decide +kernel
theorem dX4_keeps_89 : decode cX4_keeps 89 = .ok (.iadd, 1) := by decide +kernel
theorem dX4_keeps_90 : decode cX4_keeps 90 = .ok (.putfield 127, 3) := by decide +kernel
theorem dX4_keeps_93 : decode cX4_keeps 93 = .ok (.return_, 1) := by decide +kernel
theorem dX4_calls_0 : decode cX4_calls 0 = .ok (.aload_n 0, 1) := by decide +kernel
theorem dX4_calls_1 : decode cX4_calls 1 = .ok (.iload_n 1, 1) := by decide +kernel
theorem dX4_calls_2 : decode cX4_calls 2 = .ok (.invokevirtual 136, 3) := by decide +kernel
theorem dX4_calls_5 : decode cX4_calls 5 = .ok (.ifCond .eq 14, 3) := by decide +kernel
theorem dX4_calls_8 : decode cX4_calls 8 = .ok (.iload_n 2, 1) := by decide +kernel
theorem dX4_calls_9 : decode cX4_calls 9 = .ok (.iconst 0, 1) := by decide +kernel
theorem dX4_calls_10 : decode cX4_calls 10 = .ok (.sipush 255, 3) := by decide +kernel
theorem dX4_calls_13 : decode cX4_calls 13 = .ok (.invokestatic 67, 3) := by decide +kernel
theorem dX4_calls_16 : decode cX4_calls 16 = .ok (.ifCond .ne 5, 3) := by decide +kernel
theorem dX4_calls_19 : decode cX4_calls 19 = .ok (.iconst (-1), 1) := by decide +kernel
theorem dX4_calls_20 : decode cX4_calls 20 = .ok (.ireturn, 1) := by decide +kernel
theorem dX4_calls_21 : decode cX4_calls 21 = .ok (.aload_n 0, 1) := by decide +kernel
theorem dX4_calls_22 : decode cX4_calls 22 = .ok (.invokevirtual 142, 3) := by decide +kernel
theorem dX4_calls_25 : decode cX4_calls 25 = .ok (.aload_n 0, 1) := by decide +kernel
theorem dX4_calls_26 : decode cX4_calls 26 = .ok (.getfield 19, 3) := by decide +kernel
theorem dX4_calls_29 : decode cX4_calls 29 = .ok (.bipush 9, 2) := by decide +kernel
theorem dX4_calls_31 : decode cX4_calls 31 = .ok (.iload_n 1, 1) := by decide +kernel
theorem dX4_calls_32 : decode cX4_calls 32 = .ok (.iadd, 1) := by decide +kernel
theorem dX4_calls_33 : decode cX4_calls 33 = .ok (.iaload, 1) := by decide +kernel
theorem dX4_calls_34 : decode cX4_calls 34 = .ok (.istore_n 3, 1) := by decide +kernel
theorem dX4_calls_35 : decode cX4_calls 35 = .ok (.aload_n 0, 1) := by decide +kernel
theorem dX4_calls_36 : decode cX4_calls 36 = .ok (.getfield 19, 3) := by decide +kernel
theorem dX4_calls_39 : decode cX4_calls 39 = .ok (.bipush 9, 2) := by decide +kernel
theorem dX4_calls_41 : decode cX4_calls 41 = .ok (.iload_n 1, 1) := by decide +kernel
theorem dX4_calls_42 : decode cX4_calls 42 = .ok (.iadd, 1) := by decide +kernel
theorem dX4_calls_43 : decode cX4_calls 43 = .ok (.iload_n 2, 1) := by decide +kernel
theorem dX4_calls_44 : decode cX4_calls 44 = .ok (.iastore, 1) := by decide +kernel
theorem dX4_calls_45 : decode cX4_calls 45 = .ok (.iload_n 3, 1) := by decide +kernel
theorem dX4_calls_46 : decode cX4_calls 46 = .ok (.ireturn, 1) := by decide +kernel
theorem dX4_could_0 : decode cX4_could 0 = .ok (.iload_n 2, 1) := by decide +kernel
theorem dX4_could_1 : decode cX4_could 1 = .ok (.ifCond .eq 47, 3) := by decide +kernel
theorem dX4_could_4 : decode cX4_could 4 = .ok (.iload_n 1, 1) := by decide +kernel
theorem dX4_could_5 : decode cX4_could 5 = .ok (.aload_n 0, 1) := by decide +kernel
theorem dX4_could_6 : decode cX4_could 6 = .ok (.getfield 39, 3) := by decide +kernel
theorem dX4_could_9 : decode cX4_could 9 = .ok (.if_icmp .eq 39, 3) := by decide +kernel
theorem dX4_could_12 : decode cX4_could 12 = .ok (.aload_n 0, 1) := by decide +kernel
theorem dX4_could_13 : decode cX4_could 13 = .ok (.getfield 13, 3) := by decide +kernel
theorem dX4_could_16 : decode cX4_could 16 = .ok (.bipush 26, 2) := by decide +kernel
theorem dX4_could_18 : decode cX4_could 18 = .ok (.iload_n 1, 1) := by decide +kernel
theorem dX4_could_19 : decode cX4_could 19 = .ok (.iadd, 1) := by decide +kernel
theorem dX4_could_20 : decode cX4_could 20 = .ok (.iaload, 1) := by decide +kernel
theorem dX4_could_21 : decode cX4_could 21 = .ok (.aload_n 0, 1) := by decide +kernel
theorem dX4_could_22 : decode cX4_could 22 = .ok (.getfield 19, 3) := by decide +kernel
theorem dX4_could_25 : decode cX4_could 25 = .ok (.iconst 1, 1) := by decide +kernel
theorem dX4_could_26 : decode cX4_could 26 = .ok (.iaload, 1) := by decide +kernel
theorem dX4_could_27 : decode cX4_could 27 = .ok (.ishr, 1) := by decide +kernel
theorem dX4_could_28 : decode cX4_could 28 = .ok (.iconst 1, 1) := by decide +kernel
theorem dX4_could_29 : decode cX4_could 29 = .ok (.iand, 1) := by decide +kernel
theorem dX4_could_30 : decode cX4_could 30 = .ok (.ifCond .ne 18, 3) := by decide +kernel
theorem dX4_could_33 : decode cX4_could 33 = .ok (.aload_n 0, 1) := by decide +kernel
theorem dX4_could_34 : decode cX4_could 34 = .ok (.getfield 19, 3) := by decide +kernel
theorem dX4_could_37 : decode cX4_could 37 = .ok (.iconst 3, 1) := by decide +kernel
theorem dX4_could_38 : decode cX4_could 38 = .ok (.iload_n 1, 1) := by decide +kernel
theorem dX4_could_39 : decode cX4_could 39 = .ok (.iadd, 1) := by decide +kernel
theorem dX4_could_40 : decode cX4_could 40 = .ok (.iaload, 1) := by decide +kernel
theorem dX4_could_41 : decode cX4_could 41 = .ok (.ifCond .le 7, 3) := by decide +kernel
theorem dX4_could_44 : decode cX4_could 44 = .ok (.iconst 1, 1) := by decide +kernel
theorem dX4_could_45 : decode cX4_could 45 = .ok (.goto 4, 3) := by decide +kernel
theorem dX4_could_48 : decode cX4_could 48 = .ok (.iconst 0, 1) := by decide +kernel
theorem dX4_could_49 : decode cX4_could 49 = .ok (.ireturn, 1) := by decide +kernel
theorem dX4_loudest_0 : decode cX4_loudest 0 = .ok (.aload_n 0, 1) := by decide +kernel
theorem dX4_loudest_1 : decode cX4_loudest 1 = .ok (.getfield 45, 3) := by decide +kernel
theorem dX4_loudest_4 : decode cX4_loudest 4 = .ok (.iload_n 1, 1) := by decide +kernel
theorem dX4_loudest_5 : decode cX4_loudest 5 = .ok (.if_icmp .ne 10, 3) := by decide +kernel
theorem dX4_loudest_8 : decode cX4_loudest 8 = .ok (.aload_n 0, 1) := by decide +kernel
theorem dX4_loudest_9 : decode cX4_loudest 9 = .ok (.getfield 145, 3) := by decide +kernel
theorem dX4_loudest_12 : decode cX4_loudest 12 = .ok (.goto 4, 3) := by decide +kernel
theorem dX4_loudest_15 : decode cX4_loudest 15 = .ok (.iconst 0, 1) := by decide +kernel
theorem dX4_loudest_16 : decode cX4_loudest 16 = .ok (.istore_n 2, 1) := by decide +kernel
theorem dX4_loudest_17 : decode cX4_loudest 17 = .ok (.iconst 0, 1) := by decide +kernel
theorem dX4_loudest_18 : decode cX4_loudest 18 = .ok (.istore_n 3, 1) := by decide +kernel
theorem dX4_loudest_19 : decode cX4_loudest 19 = .ok (.iload_n 3, 1) := by decide +kernel
theorem dX4_loudest_20 : decode cX4_loudest 20 = .ok (.aload_n 0, 1) := by decide +kernel
theorem dX4_loudest_21 : decode cX4_loudest 21 = .ok (.getfield 13, 3) := by decide +kernel
theorem dX4_loudest_24 : decode cX4_loudest 24 = .ok (.iconst 3, 1) := by decide +kernel
theorem dX4_loudest_25 : decode cX4_loudest 25 = .ok (.iaload, 1) := by decide +kernel
theorem dX4_loudest_26 : decode cX4_loudest 26 = .ok (.if_icmp .ge 91, 3) := by decide +kernel
theorem dX4_loudest_29 : decode cX4_loudest 29 = .ok (.aload_n 0, 1) := by decide +kernel
theorem dX4_loudest_30 : decode cX4_loudest 30 = .ok (.getfield 35, 3) := by decide +kernel
theorem dX4_loudest_33 : decode cX4_loudest 33 = .ok (.iload_n 3, 1) := by decide +kernel
theorem dX4_loudest_34 : decode cX4_loudest 34 = .ok (.ishr, 1) := by decide +kernel
theorem dX4_loudest_35 : decode cX4_loudest 35 = .ok (.iconst 1, 1) := by decide +kernel
theorem dX4_loudest_36 : decode cX4_loudest 36 = .ok (.iand, 1) := by decide +kernel
theorem dX4_loudest_37 : decode cX4_loudest 37 = .ok (.iconst 1, 1) := by decide +kernel
theorem dX4_loudest_38 : decode cX4_loudest 38 = .ok (.if_icmp .ne 38, 3) := by decide +kernel
theorem dX4_loudest_41 : decode cX4_loudest 41 = .ok (.aload_n 0, 1) := by decide +kernel
theorem dX4_loudest_42 : decode cX4_loudest 42 = .ok (.getfield 13, 3) := by decide +kernel
theorem dX4_loudest_45 : decode cX4_loudest 45 = .ok (.bipush 38, 2) := by decide +kernel
theorem dX4_loudest_47 : decode cX4_loudest 47 = .ok (.iload_n 3, 1) := by decide +kernel
theorem dX4_loudest_48 : decode cX4_loudest 48 = .ok (.iadd, 1) := by decide +kernel
theorem dX4_loudest_49 : decode cX4_loudest 49 = .ok (.iaload, 1) := by decide +kernel
theorem dX4_loudest_50 : decode cX4_loudest 50 = .ok (.iload_n 1, 1) := by decide +kernel
theorem dX4_loudest_51 : decode cX4_loudest 51 = .ok (.if_icmp .ne 25, 3) := by decide +kernel
theorem dX4_loudest_54 : decode cX4_loudest 54 = .ok (.aload_n 0, 1) := by decide +kernel
theorem dX4_loudest_55 : decode cX4_loudest 55 = .ok (.getfield 13, 3) := by decide +kernel
theorem dX4_loudest_58 : decode cX4_loudest 58 = .ok (.bipush 44, 2) := by decide +kernel
theorem dX4_loudest_60 : decode cX4_loudest 60 = .ok (.iload_n 3, 1) := by decide +kernel
theorem dX4_loudest_61 : decode cX4_loudest 61 = .ok (.iadd, 1) := by decide +kernel
theorem dX4_loudest_62 : decode cX4_loudest 62 = .ok (.iaload, 1) := by decide +kernel
theorem dX4_loudest_63 : decode cX4_loudest 63 = .ok (.aload_n 0, 1) := by decide +kernel
theorem dX4_loudest_64 : decode cX4_loudest 64 = .ok (.getfield 19, 3) := by decide +kernel
theorem dX4_loudest_67 : decode cX4_loudest 67 = .ok (.iconst 1, 1) := by decide +kernel
theorem dX4_loudest_68 : decode cX4_loudest 68 = .ok (.iaload, 1) := by decide +kernel
theorem dX4_loudest_69 : decode cX4_loudest 69 = .ok (.if_icmp .ne 7, 3) := by decide +kernel
theorem dX4_loudest_72 : decode cX4_loudest 72 = .ok (.iconst 1, 1) := by decide +kernel
theorem dX4_loudest_73 : decode cX4_loudest 73 = .ok (.goto 4, 3) := by decide +kernel
theorem dX4_loudest_76 : decode cX4_loudest 76 = .ok (.iconst 0, 1) := by decide +kernel
theorem dX4_loudest_77 : decode cX4_loudest 77 = .ok (.istore 4, 2) := by decide +kernel
theorem dX4_loudest_79 : decode cX4_loudest 79 = .ok (.iload 4, 2) := by decide +kernel
theorem dX4_loudest_81 : decode cX4_loudest 81 = .ok (.ifCond .eq 28, 3) := by decide +kernel
theorem dX4_loudest_84 : decode cX4_loudest 84 = .ok (.aload_n 0, 1) := by decide +kernel
theorem dX4_loudest_85 : decode cX4_loudest 85 = .ok (.getfield 13, 3) := by decide +kernel
theorem dX4_loudest_88 : decode cX4_loudest 88 = .ok (.bipush 50, 2) := by decide +kernel
theorem dX4_loudest_90 : decode cX4_loudest 90 = .ok (.iload_n 3, 1) := by decide +kernel
theorem dX4_loudest_91 : decode cX4_loudest 91 = .ok (.iadd, 1) := by decide +kernel
theorem dX4_loudest_92 : decode cX4_loudest 92 = .ok (.iaload, 1) := by decide +kernel
theorem dX4_loudest_93 : decode cX4_loudest 93 = .ok (.iload_n 2, 1) := by decide +kernel
theorem dX4_loudest_94 : decode cX4_loudest 94 = .ok (.if_icmp .le 15, 3) := by decide +kernel
theorem dX4_loudest_97 : decode cX4_loudest 97 = .ok (.aload_n 0, 1) := by decide +kernel
theorem dX4_loudest_98 : decode cX4_loudest 98 = .ok (.getfield 13, 3) := by decide +kernel
theorem dX4_loudest_101 : decode cX4_loudest 101 = .ok (.bipush 50, 2) := by decide +kernel
theorem dX4_loudest_103 : decode cX4_loudest 103 = .ok (.iload_n 3, 1) := by decide +kernel
theorem dX4_loudest_104 : decode cX4_loudest 104 = .ok (.iadd, 1) := by decide +kernel
theorem dX4_loudest_105 : decode cX4_loudest 105 = .ok (.iaload, 1) := by decide +kernel
theorem dX4_loudest_106 : decode cX4_loudest 106 = .ok (.goto 4, 3) := by decide +kernel
theorem dX4_loudest_109 : decode cX4_loudest 109 = .ok (.iload_n 2, 1) := by decide +kernel
theorem dX4_loudest_110 : decode cX4_loudest 110 = .ok (.istore_n 2, 1) := by decide +kernel
theorem dX4_loudest_111 : decode cX4_loudest 111 = .ok (.iinc 3 1, 3) := by decide +kernel
theorem dX4_loudest_114 : decode cX4_loudest 114 = .ok (.goto (-95), 3) := by decide +kernel
theorem dX4_loudest_117 : decode cX4_loudest 117 = .ok (.iload_n 2, 1) := by decide +kernel
theorem dX4_loudest_118 : decode cX4_loudest 118 = .ok (.ireturn, 1) := by decide +kernel
theorem dX4_calledNow_0 : decode cX4_calledNow 0 = .ok (.iconst 0, 1) := by decide +kernel
theorem dX4_calledNow_1 : decode cX4_calledNow 1 = .ok (.istore_n 1, 1) := by decide +kernel
theorem dX4_calledNow_2 : decode cX4_calledNow 2 = .ok (.iconst 0, 1) := by decide +kernel
theorem dX4_calledNow_3 : decode cX4_calledNow 3 = .ok (.istore_n 2, 1) := by decide +kernel
theorem dX4_calledNow_4 : decode cX4_calledNow 4 = .ok (.iload_n 2, 1) := by decide +kernel
theorem dX4_calledNow_5 : decode cX4_calledNow 5 = .ok (.aload_n 0, 1) := by decide +kernel
theorem dX4_calledNow_6 : decode cX4_calledNow 6 = .ok (.getfield 13, 3) := by decide +kernel
theorem dX4_calledNow_9 : decode cX4_calledNow 9 = .ok (.iconst 2, 1) := by decide +kernel
theorem dX4_calledNow_10 : decode cX4_calledNow 10 = .ok (.iaload, 1) := by decide +kernel
theorem dX4_calledNow_11 : decode cX4_calledNow 11 = .ok (.if_icmp .ge 32, 3) := by decide +kernel
theorem dX4_calledNow_14 : decode cX4_calledNow 14 = .ok (.iload_n 1, 1) := by decide +kernel
theorem dX4_calledNow_15 : decode cX4_calledNow 15 = .ok (.aload_n 0, 1) := by decide +kernel
theorem dX4_calledNow_16 : decode cX4_calledNow 16 = .ok (.getfield 19, 3) := by decide +kernel
theorem dX4_calledNow_19 : decode cX4_calledNow 19 = .ok (.bipush 9, 2) := by decide +kernel
theorem dX4_calledNow_21 : decode cX4_calledNow 21 = .ok (.iload_n 2, 1) := by decide +kernel
theorem dX4_calledNow_22 : decode cX4_calledNow 22 = .ok (.iadd, 1) := by decide +kernel
theorem dX4_calledNow_23 : decode cX4_calledNow 23 = .ok (.iaload, 1) := by decide +kernel
theorem dX4_calledNow_24 : decode cX4_calledNow 24 = .ok (.aload_n 0, 1) := by decide +kernel
theorem dX4_calledNow_25 : decode cX4_calledNow 25 = .ok (.getfield 19, 3) := by decide +kernel
theorem dX4_calledNow_28 : decode cX4_calledNow 28 = .ok (.iconst 1, 1) := by decide +kernel
theorem dX4_calledNow_29 : decode cX4_calledNow 29 = .ok (.iaload, 1) := by decide +kernel
theorem dX4_calledNow_30 : decode cX4_calledNow 30 = .ok (.ishr, 1) := by decide +kernel
theorem dX4_calledNow_31 : decode cX4_calledNow 31 = .ok (.iconst 1, 1) := by decide +kernel
theorem dX4_calledNow_32 : decode cX4_calledNow 32 = .ok (.iand, 1) := by decide +kernel
theorem dX4_calledNow_33 : decode cX4_calledNow 33 = .ok (.iload_n 2, 1) := by decide +kernel
theorem dX4_calledNow_34 : decode cX4_calledNow 34 = .ok (.ishl, 1) := by decide +kernel
theorem dX4_calledNow_35 : decode cX4_calledNow 35 = .ok (.ior, 1) := by decide +kernel
theorem dX4_calledNow_36 : decode cX4_calledNow 36 = .ok (.istore_n 1, 1) := by decide +kernel
theorem dX4_calledNow_37 : decode cX4_calledNow 37 = .ok (.iinc 2 1, 3) := by decide +kernel
theorem dX4_calledNow_40 : decode cX4_calledNow 40 = .ok (.goto (-36), 3) := by decide +kernel
theorem dX4_calledNow_43 : decode cX4_calledNow 43 = .ok (.iload_n 1, 1) := by decide +kernel
theorem dX4_calledNow_44 : decode cX4_calledNow 44 = .ok (.ireturn, 1) := by decide +kernel
theorem dX4_asleep_0 : decode cX4_asleep 0 = .ok (.iconst 0, 1) := by decide +kernel
theorem dX4_asleep_1 : decode cX4_asleep 1 = .ok (.istore_n 2, 1) := by decide +kernel
theorem dX4_asleep_2 : decode cX4_asleep 2 = .ok (.iconst 0, 1) := by decide +kernel
theorem dX4_asleep_3 : decode cX4_asleep 3 = .ok (.istore_n 3, 1) := by decide +kernel
theorem dX4_asleep_4 : decode cX4_asleep 4 = .ok (.iconst 0, 1) := by decide +kernel
theorem dX4_asleep_5 : decode cX4_asleep 5 = .ok (.istore 4, 2) := by decide +kernel
theorem dX4_asleep_7 : decode cX4_asleep 7 = .ok (.iload 4, 2) := by decide +kernel
theorem dX4_asleep_9 : decode cX4_asleep 9 = .ok (.aload_n 0, 1) := by decide +kernel
theorem dX4_asleep_10 : decode cX4_asleep 10 = .ok (.getfield 13, 3) := by decide +kernel
theorem dX4_asleep_13 : decode cX4_asleep 13 = .ok (.iconst 2, 1) := by decide +kernel
theorem dX4_asleep_14 : decode cX4_asleep 14 = .ok (.iaload, 1) := by decide +kernel
theorem dX4_asleep_15 : decode cX4_asleep 15 = .ok (.if_icmp .ge 119, 3) := by decide +kernel
theorem dX4_asleep_18 : decode cX4_asleep 18 = .ok (.aload_n 0, 1) := by decide +kernel
theorem dX4_asleep_19 : decode cX4_asleep 19 = .ok (.getfield 13, 3) := by decide +kernel
theorem dX4_asleep_22 : decode cX4_asleep 22 = .ok (.bipush 14, 2) := by decide +kernel
theorem dX4_asleep_24 : decode cX4_asleep 24 = .ok (.iload 4, 2) := by decide +kernel
theorem dX4_asleep_26 : decode cX4_asleep 26 = .ok (.iadd, 1) := by decide +kernel
theorem dX4_asleep_27 : decode cX4_asleep 27 = .ok (.iaload, 1) := by decide +kernel
theorem dX4_asleep_28 : decode cX4_asleep 28 = .ok (.istore 5, 2) := by decide +kernel
theorem dX4_asleep_30 : decode cX4_asleep 30 = .ok (.iload_n 3, 1) := by decide +kernel
theorem dX4_asleep_31 : decode cX4_asleep 31 = .ok (.iconst 4, 1) := by decide +kernel
theorem dX4_asleep_32 : decode cX4_asleep 32 = .ok (.iload 5, 2) := by decide +kernel
theorem dX4_asleep_34 : decode cX4_asleep 34 = .ok (.imul, 1) := by decide +kernel
theorem dX4_asleep_35 : decode cX4_asleep 35 = .ok (.ishr, 1) := by decide +kernel
theorem dX4_asleep_36 : decode cX4_asleep 36 = .ok (.bipush 15, 2) := by decide +kernel
theorem dX4_asleep_38 : decode cX4_asleep 38 = .ok (.iand, 1) := by decide +kernel
theorem dX4_asleep_39 : decode cX4_asleep 39 = .ok (.istore 6, 2) := by decide +kernel
theorem dX4_asleep_41 : decode cX4_asleep 41 = .ok (.aload_n 0, 1) := by decide +kernel
theorem dX4_asleep_42 : decode cX4_asleep 42 = .ok (.iload 4, 2) := by decide +kernel
theorem dX4_asleep_44 : decode cX4_asleep 44 = .ok (.iload_n 1, 1) := by decide +kernel
theorem dX4_asleep_45 : decode cX4_asleep 45 = .ok (.iload 4, 2) := by decide +kernel
theorem dX4_asleep_47 : decode cX4_asleep 47 = .ok (.ishr, 1) := by decide +kernel
theorem dX4_asleep_48 : decode cX4_asleep 48 = .ok (.iconst 1, 1) := by decide +kernel
theorem dX4_asleep_49 : decode cX4_asleep 49 = .ok (.iand, 1) := by decide +kernel
theorem dX4_asleep_50 : decode cX4_asleep 50 = .ok (.iconst 1, 1) := by decide +kernel
theorem dX4_asleep_51 : decode cX4_asleep 51 = .ok (.if_icmp .ne 7, 3) := by decide +kernel
theorem dX4_asleep_54 : decode cX4_asleep 54 = .ok (.iconst 1, 1) := by decide +kernel
theorem dX4_asleep_55 : decode cX4_asleep 55 = .ok (.goto 4, 3) := by decide +kernel
theorem dX4_asleep_58 : decode cX4_asleep 58 = .ok (.iconst 0, 1) := by decide +kernel
theorem dX4_asleep_59 : decode cX4_asleep 59 = .ok (.invokevirtual 148, 3) := by decide +kernel
theorem dX4_asleep_62 : decode cX4_asleep 62 = .ok (.ifCond .eq 66, 3) := by decide +kernel
theorem dX4_asleep_65 : decode cX4_asleep 65 = .ok (.iload 6, 2) := by decide +kernel
theorem dX4_asleep_67 : decode cX4_asleep 67 = .ok (.aload_n 0, 1) := by decide +kernel
theorem dX4_asleep_68 : decode cX4_asleep 68 = .ok (.getfield 13, 3) := by decide +kernel
theorem dX4_asleep_71 : decode cX4_asleep 71 = .ok (.bipush 10, 2) := by decide +kernel
theorem dX4_asleep_73 : decode cX4_asleep 73 = .ok (.iload 5, 2) := by decide +kernel
theorem dX4_asleep_75 : decode cX4_asleep 75 = .ok (.iadd, 1) := by decide +kernel
theorem dX4_asleep_76 : decode cX4_asleep 76 = .ok (.iaload, 1) := by decide +kernel
theorem dX4_asleep_77 : decode cX4_asleep 77 = .ok (.if_icmp .ge 51, 3) := by decide +kernel
theorem dX4_asleep_80 : decode cX4_asleep 80 = .ok (.iload_n 3, 1) := by decide +kernel
theorem dX4_asleep_81 : decode cX4_asleep 81 = .ok (.iconst 1, 1) := by decide +kernel
theorem dX4_asleep_82 : decode cX4_asleep 82 = .ok (.iconst 4, 1) := by decide +kernel
theorem dX4_asleep_83 : decode cX4_asleep 83 = .ok (.iload 5, 2) := by decide +kernel
theorem dX4_asleep_85 : decode cX4_asleep 85 = .ok (.imul, 1) := by decide +kernel
theorem dX4_asleep_86 : decode cX4_asleep 86 = .ok (.ishl, 1) := by decide +kernel
theorem dX4_asleep_87 : decode cX4_asleep 87 = .ok (.iadd, 1) := by decide +kernel
theorem dX4_asleep_88 : decode cX4_asleep 88 = .ok (.istore_n 3, 1) := by decide +kernel
theorem dX4_asleep_89 : decode cX4_asleep 89 = .ok (.iload_n 2, 1) := by decide +kernel
theorem dX4_asleep_90 : decode cX4_asleep 90 = .ok (.iload 4, 2) := by decide +kernel
theorem dX4_asleep_92 : decode cX4_asleep 92 = .ok (.aload_n 0, 1) := by decide +kernel
theorem dX4_asleep_93 : decode cX4_asleep 93 = .ok (.getfield 42, 3) := by decide +kernel
theorem dX4_asleep_96 : decode cX4_asleep 96 = .ok (.if_icmp .eq 29, 3) := by decide +kernel
theorem dX4_asleep_99 : decode cX4_asleep 99 = .ok (.aload_n 0, 1) := by decide +kernel
theorem dX4_asleep_100 : decode cX4_asleep 100 = .ok (.iload 5, 2) := by decide +kernel
theorem dX4_asleep_102 : decode cX4_asleep 102 = .ok (.invokevirtual 152, 3) := by decide +kernel
theorem dX4_asleep_105 : decode cX4_asleep 105 = .ok (.aload_n 0, 1) := by decide +kernel
theorem dX4_asleep_106 : decode cX4_asleep 106 = .ok (.getfield 13, 3) := by decide +kernel
theorem dX4_asleep_109 : decode cX4_asleep 109 = .ok (.bipush 32, 2) := by decide +kernel
theorem dX4_asleep_111 : decode cX4_asleep 111 = .ok (.iload 4, 2) := by decide +kernel
theorem dX4_asleep_113 : decode cX4_asleep 113 = .ok (.iadd, 1) := by decide +kernel
theorem dX4_asleep_114 : decode cX4_asleep 114 = .ok (.iaload, 1) := by decide +kernel
theorem dX4_asleep_115 : decode cX4_asleep 115 = .ok (.if_icmp .gt 10, 3) := by decide +kernel
theorem dX4_asleep_118 : decode cX4_asleep 118 = .ok (.iconst 1, 1) := by decide +kernel
theorem dX4_asleep_119 : decode cX4_asleep 119 = .ok (.iload 4, 2) := by decide +kernel
theorem dX4_asleep_121 : decode cX4_asleep 121 = .ok (.ishl, 1) := by decide +kernel
theorem dX4_asleep_122 : decode cX4_asleep 122 = .ok (.goto 4, 3) := by decide +kernel
theorem dX4_asleep_125 : decode cX4_asleep 125 = .ok (.iconst 0, 1) := by decide +kernel
theorem dX4_asleep_126 : decode cX4_asleep 126 = .ok (.ior, 1) := by decide +kernel
theorem dX4_asleep_127 : decode cX4_asleep 127 = .ok (.istore_n 2, 1) := by decide +kernel
theorem dX4_asleep_128 : decode cX4_asleep 128 = .ok (.iinc 4 1, 3) := by decide +kernel
theorem dX4_asleep_131 : decode cX4_asleep 131 = .ok (.goto (-124), 3) := by decide +kernel
theorem dX4_asleep_134 : decode cX4_asleep 134 = .ok (.iload_n 2, 1) := by decide +kernel
theorem dX4_asleep_135 : decode cX4_asleep 135 = .ok (.ireturn, 1) := by decide +kernel
theorem dX4_goes_0 : decode cX4_goes 0 = .ok (.iconst 0, 1) := by decide +kernel
theorem dX4_goes_1 : decode cX4_goes 1 = .ok (.istore_n 2, 1) := by decide +kernel
theorem dX4_goes_2 : decode cX4_goes 2 = .ok (.iload_n 2, 1) := by decide +kernel
theorem dX4_goes_3 : decode cX4_goes 3 = .ok (.aload_n 0, 1) := by decide +kernel
theorem dX4_goes_4 : decode cX4_goes 4 = .ok (.getfield 13, 3) := by decide +kernel
theorem dX4_goes_7 : decode cX4_goes 7 = .ok (.iconst 2, 1) := by decide +kernel
theorem dX4_goes_8 : decode cX4_goes 8 = .ok (.iaload, 1) := by decide +kernel
theorem dX4_goes_9 : decode cX4_goes 9 = .ok (.if_icmp .ge 97, 3) := by decide +kernel
theorem dX4_goes_12 : decode cX4_goes 12 = .ok (.iload_n 1, 1) := by decide +kernel
theorem dX4_goes_13 : decode cX4_goes 13 = .ok (.iload_n 2, 1) := by decide +kernel
theorem dX4_goes_14 : decode cX4_goes 14 = .ok (.ishr, 1) := by decide +kernel
theorem dX4_goes_15 : decode cX4_goes 15 = .ok (.iconst 1, 1) := by decide +kernel
theorem dX4_goes_16 : decode cX4_goes 16 = .ok (.iand, 1) := by decide +kernel
theorem dX4_goes_17 : decode cX4_goes 17 = .ok (.iconst 1, 1) := by decide +kernel
theorem dX4_goes_18 : decode cX4_goes 18 = .ok (.if_icmp .ne 7, 3) := by decide +kernel
theorem dX4_goes_21 : decode cX4_goes 21 = .ok (.iconst 1, 1) := by decide +kernel
theorem dX4_goes_22 : decode cX4_goes 22 = .ok (.goto 4, 3) := by decide +kernel
theorem dX4_goes_25 : decode cX4_goes 25 = .ok (.iconst 0, 1) := by decide +kernel
theorem dX4_goes_26 : decode cX4_goes 26 = .ok (.istore_n 3, 1) := by decide +kernel
theorem dX4_goes_27 : decode cX4_goes 27 = .ok (.aload_n 0, 1) := by decide +kernel
theorem dX4_goes_28 : decode cX4_goes 28 = .ok (.getfield 19, 3) := by decide +kernel
theorem dX4_goes_31 : decode cX4_goes 31 = .ok (.iconst 3, 1) := by decide +kernel
theorem dX4_goes_32 : decode cX4_goes 32 = .ok (.iload_n 2, 1) := by decide +kernel
theorem dX4_goes_33 : decode cX4_goes 33 = .ok (.iadd, 1) := by decide +kernel
theorem dX4_goes_34 : decode cX4_goes 34 = .ok (.iaload, 1) := by decide +kernel
theorem dX4_goes_35 : decode cX4_goes 35 = .ok (.iload_n 3, 1) := by decide +kernel
theorem dX4_goes_36 : decode cX4_goes 36 = .ok (.ifCond .eq 8, 3) := by decide +kernel
theorem dX4_goes_39 : decode cX4_goes 39 = .ok (.bipush (-2), 2) := by decide +kernel
theorem dX4_goes_41 : decode cX4_goes 41 = .ok (.goto 4, 3) := by decide +kernel
theorem dX4_goes_44 : decode cX4_goes 44 = .ok (.iconst 1, 1) := by decide +kernel
theorem dX4_goes_45 : decode cX4_goes 45 = .ok (.iadd, 1) := by decide +kernel
theorem dX4_goes_46 : decode cX4_goes 46 = .ok (.istore 4, 2) := by decide +kernel
theorem dX4_goes_48 : decode cX4_goes 48 = .ok (.aload_n 0, 1) := by decide +kernel
theorem dX4_goes_49 : decode cX4_goes 49 = .ok (.getfield 19, 3) := by decide +kernel
theorem dX4_goes_52 : decode cX4_goes 52 = .ok (.iconst 3, 1) := by decide +kernel
theorem dX4_goes_53 : decode cX4_goes 53 = .ok (.iload_n 2, 1) := by decide +kernel
theorem dX4_goes_54 : decode cX4_goes 54 = .ok (.iadd, 1) := by decide +kernel
theorem dX4_goes_55 : decode cX4_goes 55 = .ok (.iload 4, 2) := by decide +kernel
theorem dX4_goes_57 : decode cX4_goes 57 = .ok (.ifCond .ge 7, 3) := by decide +kernel
theorem dX4_goes_60 : decode cX4_goes 60 = .ok (.iconst 0, 1) := by decide +kernel
theorem dX4_goes_61 : decode cX4_goes 61 = .ok (.goto 17, 3) := by decide +kernel
theorem dX4_goes_64 : decode cX4_goes 64 = .ok (.iload 4, 2) := by decide +kernel
theorem dX4_goes_66 : decode cX4_goes 66 = .ok (.bipush 20, 2) := by decide +kernel
theorem dX4_goes_68 : decode cX4_goes 68 = .ok (.if_icmp .le 8, 3) := by decide +kernel
theorem dX4_goes_71 : decode cX4_goes 71 = .ok (.bipush 20, 2) := by decide +kernel
theorem dX4_goes_73 : decode cX4_goes 73 = .ok (.goto 5, 3) := by decide +kernel
theorem dX4_goes_76 : decode cX4_goes 76 = .ok (.iload 4, 2) := by decide +kernel
theorem dX4_goes_78 : decode cX4_goes 78 = .ok (.iastore, 1) := by decide +kernel
theorem dX4_goes_79 : decode cX4_goes 79 = .ok (.aload_n 0, 1) := by decide +kernel
theorem dX4_goes_80 : decode cX4_goes 80 = .ok (.getfield 19, 3) := by decide +kernel
theorem dX4_goes_83 : decode cX4_goes 83 = .ok (.bipush 15, 2) := by decide +kernel
theorem dX4_goes_85 : decode cX4_goes 85 = .ok (.iload_n 2, 1) := by decide +kernel
theorem dX4_goes_86 : decode cX4_goes 86 = .ok (.iadd, 1) := by decide +kernel
theorem dX4_goes_87 : decode cX4_goes 87 = .ok (.dup2, 1) := by decide +kernel
theorem dX4_goes_88 : decode cX4_goes 88 = .ok (.iaload, 1) := by decide +kernel
theorem dX4_goes_89 : decode cX4_goes 89 = .ok (.iload_n 3, 1) := by decide +kernel
theorem dX4_goes_90 : decode cX4_goes 90 = .ok (.ifCond .eq 7, 3) := by decide +kernel
theorem dX4_goes_93 : decode cX4_goes 93 = .ok (.iconst 1, 1) := by decide +kernel
theorem dX4_goes_94 : decode cX4_goes 94 = .ok (.goto 4, 3) := by decide +kernel
theorem dX4_goes_97 : decode cX4_goes 97 = .ok (.iconst 0, 1) := by decide +kernel
theorem dX4_goes_98 : decode cX4_goes 98 = .ok (.iadd, 1) := by decide +kernel
theorem dX4_goes_99 : decode cX4_goes 99 = .ok (.iastore, 1) := by decide +kernel
theorem dX4_goes_100 : decode cX4_goes 100 = .ok (.iinc 2 1, 3) := by decide +kernel
theorem dX4_goes_103 : decode cX4_goes 103 = .ok (.goto (-101), 3) := by decide +kernel
theorem dX4_goes_106 : decode cX4_goes 106 = .ok (.iload_n 1, 1) := by decide +kernel
theorem dX4_goes_107 : decode cX4_goes 107 = .ok (.invokestatic 155, 3) := by decide +kernel
theorem dX4_goes_110 : decode cX4_goes 110 = .ok (.aload_n 0, 1) := by decide +kernel
theorem dX4_goes_111 : decode cX4_goes 111 = .ok (.getfield 13, 3) := by decide +kernel
theorem dX4_goes_114 : decode cX4_goes 114 = .ok (.iconst 1, 1) := by decide +kernel
theorem dX4_goes_115 : decode cX4_goes 115 = .ok (.iaload, 1) := by decide +kernel
theorem dX4_goes_116 : decode cX4_goes 116 = .ok (.if_icmp .ge 7, 3) := by decide +kernel
theorem dX4_goes_119 : decode cX4_goes 119 = .ok (.iconst 1, 1) := by decide +kernel
theorem dX4_goes_120 : decode cX4_goes 120 = .ok (.goto 4, 3) := by decide +kernel
theorem dX4_goes_123 : decode cX4_goes 123 = .ok (.iconst 0, 1) := by decide +kernel
theorem dX4_goes_124 : decode cX4_goes 124 = .ok (.istore_n 2, 1) := by decide +kernel
theorem dX4_goes_125 : decode cX4_goes 125 = .ok (.aload_n 0, 1) := by decide +kernel
theorem dX4_goes_126 : decode cX4_goes 126 = .ok (.getfield 19, 3) := by decide +kernel
theorem dX4_goes_129 : decode cX4_goes 129 = .ok (.iconst 2, 1) := by decide +kernel
theorem dX4_goes_130 : decode cX4_goes 130 = .ok (.dup2, 1) := by decide +kernel
theorem dX4_goes_131 : decode cX4_goes 131 = .ok (.iaload, 1) := by decide +kernel
theorem dX4_goes_132 : decode cX4_goes 132 = .ok (.iload_n 2, 1) := by decide +kernel
theorem dX4_goes_133 : decode cX4_goes 133 = .ok (.ifCond .eq 7, 3) := by decide +kernel
theorem dX4_goes_136 : decode cX4_goes 136 = .ok (.iconst 1, 1) := by decide +kernel
theorem dX4_goes_137 : decode cX4_goes 137 = .ok (.goto 4, 3) := by decide +kernel
theorem dX4_goes_140 : decode cX4_goes 140 = .ok (.iconst 0, 1) := by decide +kernel
theorem dX4_goes_141 : decode cX4_goes 141 = .ok (.iadd, 1) := by decide +kernel
theorem dX4_goes_142 : decode cX4_goes 142 = .ok (.iastore, 1) := by decide +kernel
theorem dX4_goes_143 : decode cX4_goes 143 = .ok (.aload_n 0, 1) := by decide +kernel
theorem dX4_goes_144 : decode cX4_goes 144 = .ok (.getfield 19, 3) := by decide +kernel
theorem dX4_goes_147 : decode cX4_goes 147 = .ok (.iconst 1, 1) := by decide +kernel
theorem dX4_goes_148 : decode cX4_goes 148 = .ok (.dup2, 1) := by decide +kernel
theorem dX4_goes_149 : decode cX4_goes 149 = .ok (.iaload, 1) := by decide +kernel
theorem dX4_goes_150 : decode cX4_goes 150 = .ok (.iconst 1, 1) := by decide +kernel
theorem dX4_goes_151 : decode cX4_goes 151 = .ok (.iadd, 1) := by decide +kernel
theorem dX4_goes_152 : decode cX4_goes 152 = .ok (.iastore, 1) := by decide +kernel
theorem dX4_goes_153 : decode cX4_goes 153 = .ok (.aload_n 0, 1) := by decide +kernel
theorem dX4_goes_154 : decode cX4_goes 154 = .ok (.getfield 19, 3) := by decide +kernel
theorem dX4_goes_157 : decode cX4_goes 157 = .ok (.iconst 1, 1) := by decide +kernel
theorem dX4_goes_158 : decode cX4_goes 158 = .ok (.iaload, 1) := by decide +kernel
theorem dX4_goes_159 : decode cX4_goes 159 = .ok (.bipush 8, 2) := by decide +kernel
theorem dX4_goes_161 : decode cX4_goes 161 = .ok (.if_icmp .ne 20, 3) := by decide +kernel
theorem dX4_goes_164 : decode cX4_goes 164 = .ok (.aload_n 0, 1) := by decide +kernel
theorem dX4_goes_165 : decode cX4_goes 165 = .ok (.getfield 19, 3) := by decide +kernel
theorem dX4_goes_168 : decode cX4_goes 168 = .ok (.iconst 1, 1) := by decide +kernel
theorem dX4_goes_169 : decode cX4_goes 169 = .ok (.iconst 0, 1) := by decide +kernel
theorem dX4_goes_170 : decode cX4_goes 170 = .ok (.iastore, 1) := by decide +kernel
theorem dX4_goes_171 : decode cX4_goes 171 = .ok (.aload_n 0, 1) := by decide +kernel
theorem dX4_goes_172 : decode cX4_goes 172 = .ok (.getfield 19, 3) := by decide +kernel
theorem dX4_goes_175 : decode cX4_goes 175 = .ok (.iconst 0, 1) := by decide +kernel
theorem dX4_goes_176 : decode cX4_goes 176 = .ok (.dup2, 1) := by decide +kernel
theorem dX4_goes_177 : decode cX4_goes 177 = .ok (.iaload, 1) := by decide +kernel
theorem dX4_goes_178 : decode cX4_goes 178 = .ok (.iconst 1, 1) := by decide +kernel
theorem dX4_goes_179 : decode cX4_goes 179 = .ok (.iadd, 1) := by decide +kernel
theorem dX4_goes_180 : decode cX4_goes 180 = .ok (.iastore, 1) := by decide +kernel
theorem dX4_goes_181 : decode cX4_goes 181 = .ok (.iload_n 2, 1) := by decide +kernel
theorem dX4_goes_182 : decode cX4_goes 182 = .ok (.ireturn, 1) := by decide +kernel
theorem dX4_hour_0 : decode cX4_hour 0 = .ok (.aload_n 0, 1) := by decide +kernel
theorem dX4_hour_1 : decode cX4_hour 1 = .ok (.getfield 19, 3) := by decide +kernel
theorem dX4_hour_4 : decode cX4_hour 4 = .ok (.iconst 0, 1) := by decide +kernel
theorem dX4_hour_5 : decode cX4_hour 5 = .ok (.iaload, 1) := by decide +kernel
theorem dX4_hour_6 : decode cX4_hour 6 = .ok (.bipush 99, 2) := by decide +kernel
theorem dX4_hour_8 : decode cX4_hour 8 = .ok (.if_icmp .ne 6, 3) := by decide +kernel
theorem dX4_hour_11 : decode cX4_hour 11 = .ok (.bipush (-2), 2) := by decide +kernel
theorem dX4_hour_13 : decode cX4_hour 13 = .ok (.ireturn, 1) := by decide +kernel
theorem dX4_hour_14 : decode cX4_hour 14 = .ok (.aload_n 0, 1) := by decide +kernel
theorem dX4_hour_15 : decode cX4_hour 15 = .ok (.invokevirtual 142, 3) := by decide +kernel
theorem dX4_hour_18 : decode cX4_hour 18 = .ok (.aload_n 0, 1) := by decide +kernel
theorem dX4_hour_19 : decode cX4_hour 19 = .ok (.aload_n 0, 1) := by decide +kernel
theorem dX4_hour_20 : decode cX4_hour 20 = .ok (.invokevirtual 158, 3) := by decide +kernel
theorem dX4_hour_23 : decode cX4_hour 23 = .ok (.invokevirtual 162, 3) := by decide +kernel
theorem dX4_hour_26 : decode cX4_hour 26 = .ok (.istore_n 1, 1) := by decide +kernel
theorem dX4_hour_27 : decode cX4_hour 27 = .ok (.aload_n 0, 1) := by decide +kernel
theorem dX4_hour_28 : decode cX4_hour 28 = .ok (.iload_n 1, 1) := by decide +kernel
theorem dX4_hour_29 : decode cX4_hour 29 = .ok (.invokevirtual 165, 3) := by decide +kernel
theorem dX4_hour_32 : decode cX4_hour 32 = .ok (.pop, 1) := by decide +kernel
theorem dX4_hour_33 : decode cX4_hour 33 = .ok (.iload_n 1, 1) := by decide +kernel
theorem dX4_hour_34 : decode cX4_hour 34 = .ok (.ireturn, 1) := by decide +kernel
theorem dX4_undo_0 : decode cX4_undo 0 = .ok (.aload_n 0, 1) := by decide +kernel
theorem dX4_undo_1 : decode cX4_undo 1 = .ok (.getfield 127, 3) := by decide +kernel
theorem dX4_undo_4 : decode cX4_undo 4 = .ok (.ifCond .ne 6, 3) := by decide +kernel
theorem dX4_undo_7 : decode cX4_undo 7 = .ok (.bipush (-2), 2) := by decide +kernel
theorem dX4_undo_9 : decode cX4_undo 9 = .ok (.ireturn, 1) := by decide +kernel
theorem dX4_undo_10 : decode cX4_undo 10 = .ok (.aload_n 0, 1) := by decide +kernel
theorem dX4_undo_11 : decode cX4_undo 11 = .ok (.dup, 1) := by decide +kernel
theorem dX4_undo_12 : decode cX4_undo 12 = .ok (.getfield 127, 3) := by decide +kernel
theorem dX4_undo_15 : decode cX4_undo 15 = .ok (.iconst 1, 1) := by decide +kernel
theorem dX4_undo_16 : decode cX4_undo 16 = .ok (.isub, 1) := by decide +kernel
theorem dX4_undo_17 : decode cX4_undo 17 = .ok (.putfield 127, 3) := by decide +kernel
theorem dX4_undo_20 : decode cX4_undo 20 = .ok (.iconst 0, 1) := by decide +kernel
theorem dX4_undo_21 : decode cX4_undo 21 = .ok (.istore_n 1, 1) := by decide +kernel
theorem dX4_undo_22 : decode cX4_undo 22 = .ok (.iload_n 1, 1) := by decide +kernel
theorem dX4_undo_23 : decode cX4_undo 23 = .ok (.bipush 21, 2) := by decide +kernel
theorem dX4_undo_25 : decode cX4_undo 25 = .ok (.if_icmp .ge 29, 3) := by decide +kernel
theorem dX4_undo_28 : decode cX4_undo 28 = .ok (.aload_n 0, 1) := by decide +kernel
theorem dX4_undo_29 : decode cX4_undo 29 = .ok (.getfield 19, 3) := by decide +kernel
theorem dX4_undo_32 : decode cX4_undo 32 = .ok (.iload_n 1, 1) := by decide +kernel
theorem dX4_undo_33 : decode cX4_undo 33 = .ok (.aload_n 0, 1) := by decide +kernel
theorem dX4_undo_34 : decode cX4_undo 34 = .ok (.getfield 22, 3) := by decide +kernel
theorem dX4_undo_37 : decode cX4_undo 37 = .ok (.bipush 21, 2) := by decide +kernel
theorem dX4_undo_39 : decode cX4_undo 39 = .ok (.aload_n 0, 1) := by decide +kernel
theorem dX4_undo_40 : decode cX4_undo 40 = .ok (.getfield 127, 3) := by decide +kernel
theorem dX4_undo_43 : decode cX4_undo 43 = .ok (.imul, 1) := by decide +kernel
theorem dX4_undo_44 : decode cX4_undo 44 = .ok (.iload_n 1, 1) := by decide +kernel
theorem dX4_undo_45 : decode cX4_undo 45 = .ok (.iadd, 1) := by decide +kernel
theorem dX4_undo_46 : decode cX4_undo 46 = .ok (.iaload, 1) := by decide +kernel
theorem dX4_undo_47 : decode cX4_undo 47 = .ok (.iastore, 1) := by decide +kernel
theorem dX4_undo_48 : decode cX4_undo 48 = .ok (.iinc 1 1, 3) := by decide +kernel
theorem dX4_undo_51 : decode cX4_undo 51 = .ok (.goto (-29), 3) := by decide +kernel
theorem dX4_undo_54 : decode cX4_undo 54 = .ok (.aload_n 0, 1) := by decide +kernel
theorem dX4_undo_55 : decode cX4_undo 55 = .ok (.getfield 127, 3) := by decide +kernel
theorem dX4_undo_58 : decode cX4_undo 58 = .ok (.ireturn, 1) := by decide +kernel
theorem dX4_holds_0 : decode cX4_holds 0 = .ok (.iconst 0, 1) := by decide +kernel
theorem dX4_holds_1 : decode cX4_holds 1 = .ok (.istore_n 1, 1) := by decide +kernel
theorem dX4_holds_2 : decode cX4_holds 2 = .ok (.iload_n 1, 1) := by decide +kernel
theorem dX4_holds_3 : decode cX4_holds 3 = .ok (.bipush 21, 2) := by decide +kernel
theorem dX4_holds_5 : decode cX4_holds 5 = .ok (.if_icmp .ge 21, 3) := by decide +kernel
theorem dX4_holds_8 : decode cX4_holds 8 = .ok (.aload_n 0, 1) := by decide +kernel
theorem dX4_holds_9 : decode cX4_holds 9 = .ok (.getfield 48, 3) := by decide +kernel
theorem dX4_holds_12 : decode cX4_holds 12 = .ok (.iload_n 1, 1) := by decide +kernel
theorem dX4_holds_13 : decode cX4_holds 13 = .ok (.aload_n 0, 1) := by decide +kernel
theorem dX4_holds_14 : decode cX4_holds 14 = .ok (.getfield 19, 3) := by decide +kernel
theorem dX4_holds_17 : decode cX4_holds 17 = .ok (.iload_n 1, 1) := by decide +kernel
theorem dX4_holds_18 : decode cX4_holds 18 = .ok (.iaload, 1) := by decide +kernel
theorem dX4_holds_19 : decode cX4_holds 19 = .ok (.iastore, 1) := by decide +kernel
theorem dX4_holds_20 : decode cX4_holds 20 = .ok (.iinc 1 1, 3) := by decide +kernel
theorem dX4_holds_23 : decode cX4_holds 23 = .ok (.goto (-21), 3) := by decide +kernel
theorem dX4_holds_26 : decode cX4_holds 26 = .ok (.return_, 1) := by decide +kernel
theorem dX4_lets_0 : decode cX4_lets 0 = .ok (.iconst 0, 1) := by decide +kernel
theorem dX4_lets_1 : decode cX4_lets 1 = .ok (.istore_n 1, 1) := by decide +kernel
theorem dX4_lets_2 : decode cX4_lets 2 = .ok (.iload_n 1, 1) := by decide +kernel
theorem dX4_lets_3 : decode cX4_lets 3 = .ok (.bipush 21, 2) := by decide +kernel
theorem dX4_lets_5 : decode cX4_lets 5 = .ok (.if_icmp .ge 21, 3) := by decide +kernel
theorem dX4_lets_8 : decode cX4_lets 8 = .ok (.aload_n 0, 1) := by decide +kernel
theorem dX4_lets_9 : decode cX4_lets 9 = .ok (.getfield 19, 3) := by decide +kernel
theorem dX4_lets_12 : decode cX4_lets 12 = .ok (.iload_n 1, 1) := by decide +kernel
theorem dX4_lets_13 : decode cX4_lets 13 = .ok (.aload_n 0, 1) := by decide +kernel
theorem dX4_lets_14 : decode cX4_lets 14 = .ok (.getfield 48, 3) := by decide +kernel
theorem dX4_lets_17 : decode cX4_lets 17 = .ok (.iload_n 1, 1) := by decide +kernel
theorem dX4_lets_18 : decode cX4_lets 18 = .ok (.iaload, 1) := by decide +kernel
theorem dX4_lets_19 : decode cX4_lets 19 = .ok (.iastore, 1) := by decide +kernel
theorem dX4_lets_20 : decode cX4_lets 20 = .ok (.iinc 1 1, 3) := by decide +kernel
theorem dX4_lets_23 : decode cX4_lets 23 = .ok (.goto (-21), 3) := by decide +kernel
theorem dX4_lets_26 : decode cX4_lets 26 = .ok (.return_, 1) := by decide +kernel
theorem dX4_asleepIn_0 : decode cX4_asleepIn 0 = .ok (.iload_n 1, 1) := by decide +kernel
theorem dX4_asleepIn_1 : decode cX4_asleepIn 1 = .ok (.iconst 0, 1) := by decide +kernel
theorem dX4_asleepIn_2 : decode cX4_asleepIn 2 = .ok (.bipush 80, 2) := by decide +kernel
theorem dX4_asleepIn_4 : decode cX4_asleepIn 4 = .ok (.invokestatic 67, 3) := by decide +kernel
theorem dX4_asleepIn_7 : decode cX4_asleepIn 7 = .ok (.ifCond .ne 5, 3) := by decide +kernel
theorem dX4_asleepIn_10 : decode cX4_asleepIn 10 = .ok (.iconst (-1), 1) := by decide +kernel
theorem dX4_asleepIn_11 : decode cX4_asleepIn 11 = .ok (.ireturn, 1) := by decide +kernel
theorem dX4_asleepIn_12 : decode cX4_asleepIn 12 = .ok (.aload_n 0, 1) := by decide +kernel
theorem dX4_asleepIn_13 : decode cX4_asleepIn 13 = .ok (.invokevirtual 168, 3) := by decide +kernel
theorem dX4_asleepIn_16 : decode cX4_asleepIn 16 = .ok (.iconst 0, 1) := by decide +kernel
theorem dX4_asleepIn_17 : decode cX4_asleepIn 17 = .ok (.istore_n 2, 1) := by decide +kernel
theorem dX4_asleepIn_18 : decode cX4_asleepIn 18 = .ok (.iload_n 2, 1) := by decide +kernel
theorem dX4_asleepIn_19 : decode cX4_asleepIn 19 = .ok (.iload_n 1, 1) := by decide +kernel
theorem dX4_asleepIn_20 : decode cX4_asleepIn 20 = .ok (.if_icmp .ge 22, 3) := by decide +kernel
theorem dX4_asleepIn_23 : decode cX4_asleepIn 23 = .ok (.aload_n 0, 1) := by decide +kernel
theorem dX4_asleepIn_24 : decode cX4_asleepIn 24 = .ok (.aload_n 0, 1) := by decide +kernel
theorem dX4_asleepIn_25 : decode cX4_asleepIn 25 = .ok (.aload_n 0, 1) := by decide +kernel
theorem dX4_asleepIn_26 : decode cX4_asleepIn 26 = .ok (.invokevirtual 158, 3) := by decide +kernel
theorem dX4_asleepIn_29 : decode cX4_asleepIn 29 = .ok (.invokevirtual 162, 3) := by decide +kernel
theorem dX4_asleepIn_32 : decode cX4_asleepIn 32 = .ok (.invokevirtual 165, 3) := by decide +kernel
theorem dX4_asleepIn_35 : decode cX4_asleepIn 35 = .ok (.pop, 1) := by decide +kernel
theorem dX4_asleepIn_36 : decode cX4_asleepIn 36 = .ok (.iinc 2 1, 3) := by decide +kernel
theorem dX4_asleepIn_39 : decode cX4_asleepIn 39 = .ok (.goto (-21), 3) := by decide +kernel
theorem dX4_asleepIn_42 : decode cX4_asleepIn 42 = .ok (.aload_n 0, 1) := by decide +kernel
theorem dX4_asleepIn_43 : decode cX4_asleepIn 43 = .ok (.aload_n 0, 1) := by decide +kernel
theorem dX4_asleepIn_44 : decode cX4_asleepIn 44 = .ok (.invokevirtual 158, 3) := by decide +kernel
theorem dX4_asleepIn_47 : decode cX4_asleepIn 47 = .ok (.invokevirtual 162, 3) := by decide +kernel
theorem dX4_asleepIn_50 : decode cX4_asleepIn 50 = .ok (.istore_n 2, 1) := by decide +kernel
theorem dX4_asleepIn_51 : decode cX4_asleepIn 51 = .ok (.aload_n 0, 1) := by decide +kernel
theorem dX4_asleepIn_52 : decode cX4_asleepIn 52 = .ok (.invokevirtual 171, 3) := by decide +kernel
theorem dX4_asleepIn_55 : decode cX4_asleepIn 55 = .ok (.iload_n 2, 1) := by decide +kernel
theorem dX4_asleepIn_56 : decode cX4_asleepIn 56 = .ok (.ireturn, 1) := by decide +kernel
theorem dX4_lapseIn_0 : decode cX4_lapseIn 0 = .ok (.aload_n 0, 1) := by decide +kernel
theorem dX4_lapseIn_1 : decode cX4_lapseIn 1 = .ok (.invokevirtual 168, 3) := by decide +kernel
theorem dX4_lapseIn_4 : decode cX4_lapseIn 4 = .ok (.bipush (-9), 2) := by decide +kernel
theorem dX4_lapseIn_6 : decode cX4_lapseIn 6 = .ok (.istore_n 2, 1) := by decide +kernel
theorem dX4_lapseIn_7 : decode cX4_lapseIn 7 = .ok (.iconst 0, 1) := by decide +kernel
theorem dX4_lapseIn_8 : decode cX4_lapseIn 8 = .ok (.istore_n 3, 1) := by decide +kernel
theorem dX4_lapseIn_9 : decode cX4_lapseIn 9 = .ok (.iload_n 3, 1) := by decide +kernel
theorem dX4_lapseIn_10 : decode cX4_lapseIn 10 = .ok (.iload_n 1, 1) := by decide +kernel
theorem dX4_lapseIn_11 : decode cX4_lapseIn 11 = .ok (.if_icmp .ge 36, 3) := by decide +kernel
theorem dX4_lapseIn_14 : decode cX4_lapseIn 14 = .ok (.iload_n 2, 1) := by decide +kernel
theorem dX4_lapseIn_15 : decode cX4_lapseIn 15 = .ok (.bipush (-9), 2) := by decide +kernel
theorem dX4_lapseIn_17 : decode cX4_lapseIn 17 = .ok (.if_icmp .ne 30, 3) := by decide +kernel
theorem dX4_lapseIn_20 : decode cX4_lapseIn 20 = .ok (.aload_n 0, 1) := by decide +kernel
theorem dX4_lapseIn_21 : decode cX4_lapseIn 21 = .ok (.aload_n 0, 1) := by decide +kernel
theorem dX4_lapseIn_22 : decode cX4_lapseIn 22 = .ok (.aload_n 0, 1) := by decide +kernel
theorem dX4_lapseIn_23 : decode cX4_lapseIn 23 = .ok (.invokevirtual 158, 3) := by decide +kernel
theorem dX4_lapseIn_26 : decode cX4_lapseIn 26 = .ok (.invokevirtual 162, 3) := by decide +kernel
theorem dX4_lapseIn_29 : decode cX4_lapseIn 29 = .ok (.invokevirtual 165, 3) := by decide +kernel
theorem dX4_lapseIn_32 : decode cX4_lapseIn 32 = .ok (.ifCond .eq 7, 3) := by decide +kernel
theorem dX4_lapseIn_35 : decode cX4_lapseIn 35 = .ok (.iload_n 3, 1) := by decide +kernel
theorem dX4_lapseIn_36 : decode cX4_lapseIn 36 = .ok (.goto 4, 3) := by decide +kernel
theorem dX4_lapseIn_39 : decode cX4_lapseIn 39 = .ok (.iload_n 2, 1) := by decide +kernel
theorem dX4_lapseIn_40 : decode cX4_lapseIn 40 = .ok (.istore_n 2, 1) := by decide +kernel
theorem dX4_lapseIn_41 : decode cX4_lapseIn 41 = .ok (.iinc 3 1, 3) := by decide +kernel
theorem dX4_lapseIn_44 : decode cX4_lapseIn 44 = .ok (.goto (-35), 3) := by decide +kernel
theorem dX4_lapseIn_47 : decode cX4_lapseIn 47 = .ok (.aload_n 0, 1) := by decide +kernel
theorem dX4_lapseIn_48 : decode cX4_lapseIn 48 = .ok (.invokevirtual 171, 3) := by decide +kernel
theorem dX4_lapseIn_51 : decode cX4_lapseIn 51 = .ok (.iload_n 2, 1) := by decide +kernel
theorem dX4_lapseIn_52 : decode cX4_lapseIn 52 = .ok (.ireturn, 1) := by decide +kernel
theorem dX4_lapse_0 : decode cX4_lapse 0 = .ok (.aload_n 0, 1) := by decide +kernel
theorem dX4_lapse_1 : decode cX4_lapse 1 = .ok (.bipush 81, 2) := by decide +kernel
theorem dX4_lapse_3 : decode cX4_lapse 3 = .ok (.invokevirtual 174, 3) := by decide +kernel
theorem dX4_lapse_6 : decode cX4_lapse 6 = .ok (.ireturn, 1) := by decide +kernel
theorem dX4_puts_0 : decode cX4_puts 0 = .ok (.iconst 0, 1) := by decide +kernel
theorem dX4_puts_1 : decode cX4_puts 1 = .ok (.istore_n 2, 1) := by decide +kernel
theorem dX4_puts_2 : decode cX4_puts 2 = .ok (.iload_n 2, 1) := by decide +kernel
theorem dX4_puts_3 : decode cX4_puts 3 = .ok (.bipush 21, 2) := by decide +kernel
theorem dX4_puts_5 : decode cX4_puts 5 = .ok (.if_icmp .ge 26, 3) := by decide +kernel
theorem dX4_puts_8 : decode cX4_puts 8 = .ok (.aload_n 0, 1) := by decide +kernel
theorem dX4_puts_9 : decode cX4_puts 9 = .ok (.getfield 51, 3) := by decide +kernel
theorem dX4_puts_12 : decode cX4_puts 12 = .ok (.bipush 21, 2) := by decide +kernel
theorem dX4_puts_14 : decode cX4_puts 14 = .ok (.iload_n 1, 1) := by decide +kernel
theorem dX4_puts_15 : decode cX4_puts 15 = .ok (.imul, 1) := by decide +kernel
theorem dX4_puts_16 : decode cX4_puts 16 = .ok (.iload_n 2, 1) := by decide +kernel
theorem dX4_puts_17 : decode cX4_puts 17 = .ok (.iadd, 1) := by decide +kernel
theorem dX4_puts_18 : decode cX4_puts 18 = .ok (.aload_n 0, 1) := by decide +kernel
theorem dX4_puts_19 : decode cX4_puts 19 = .ok (.getfield 19, 3) := by decide +kernel
theorem dX4_puts_22 : decode cX4_puts 22 = .ok (.iload_n 2, 1) := by decide +kernel
theorem dX4_puts_23 : decode cX4_puts 23 = .ok (.iaload, 1) := by decide +kernel
theorem dX4_puts_24 : decode cX4_puts 24 = .ok (.iastore, 1) := by decide +kernel
theorem dX4_puts_25 : decode cX4_puts 25 = .ok (.iinc 2 1, 3) := by decide +kernel
theorem dX4_puts_28 : decode cX4_puts 28 = .ok (.goto (-26), 3) := by decide +kernel
theorem dX4_puts_31 : decode cX4_puts 31 = .ok (.return_, 1) := by decide +kernel
theorem dX4_takes_0 : decode cX4_takes 0 = .ok (.iconst 0, 1) := by decide +kernel
theorem dX4_takes_1 : decode cX4_takes 1 = .ok (.istore_n 2, 1) := by decide +kernel
theorem dX4_takes_2 : decode cX4_takes 2 = .ok (.iload_n 2, 1) := by decide +kernel
theorem dX4_takes_3 : decode cX4_takes 3 = .ok (.bipush 21, 2) := by decide +kernel
theorem dX4_takes_5 : decode cX4_takes 5 = .ok (.if_icmp .ge 26, 3) := by decide +kernel
theorem dX4_takes_8 : decode cX4_takes 8 = .ok (.aload_n 0, 1) := by decide +kernel
theorem dX4_takes_9 : decode cX4_takes 9 = .ok (.getfield 19, 3) := by decide +kernel
theorem dX4_takes_12 : decode cX4_takes 12 = .ok (.iload_n 2, 1) := by decide +kernel
theorem dX4_takes_13 : decode cX4_takes 13 = .ok (.aload_n 0, 1) := by decide +kernel
theorem dX4_takes_14 : decode cX4_takes 14 = .ok (.getfield 51, 3) := by decide +kernel
theorem dX4_takes_17 : decode cX4_takes 17 = .ok (.bipush 21, 2) := by decide +kernel
theorem dX4_takes_19 : decode cX4_takes 19 = .ok (.iload_n 1, 1) := by decide +kernel
theorem dX4_takes_20 : decode cX4_takes 20 = .ok (.imul, 1) := by decide +kernel
theorem dX4_takes_21 : decode cX4_takes 21 = .ok (.iload_n 2, 1) := by decide +kernel
theorem dX4_takes_22 : decode cX4_takes 22 = .ok (.iadd, 1) := by decide +kernel
theorem dX4_takes_23 : decode cX4_takes 23 = .ok (.iaload, 1) := by decide +kernel
theorem dX4_takes_24 : decode cX4_takes 24 = .ok (.iastore, 1) := by decide +kernel
theorem dX4_takes_25 : decode cX4_takes 25 = .ok (.iinc 2 1, 3) := by decide +kernel
theorem dX4_takes_28 : decode cX4_takes 28 = .ok (.goto (-26), 3) := by decide +kernel
theorem dX4_takes_31 : decode cX4_takes 31 = .ok (.return_, 1) := by decide +kernel
theorem dX4_seeks_0 : decode cX4_seeks 0 = .ok (.aload_n 0, 1) := by decide +kernel
theorem dX4_seeks_1 : decode cX4_seeks 1 = .ok (.bipush (-9), 2) := by decide +kernel
theorem dX4_seeks_3 : decode cX4_seeks 3 = .ok (.putfield 177, 3) := by decide +kernel
theorem dX4_seeks_6 : decode cX4_seeks 6 = .ok (.iconst 1, 1) := by decide +kernel
theorem dX4_seeks_7 : decode cX4_seeks 7 = .ok (.aload_n 0, 1) := by decide +kernel
theorem dX4_seeks_8 : decode cX4_seeks 8 = .ok (.getfield 13, 3) := by decide +kernel
theorem dX4_seeks_11 : decode cX4_seeks 11 = .ok (.iconst 2, 1) := by decide +kernel
theorem dX4_seeks_12 : decode cX4_seeks 12 = .ok (.iaload, 1) := by decide +kernel
theorem dX4_seeks_13 : decode cX4_seeks 13 = .ok (.ishl, 1) := by decide +kernel
theorem dX4_seeks_14 : decode cX4_seeks 14 = .ok (.iconst 1, 1) := by decide +kernel
theorem dX4_seeks_15 : decode cX4_seeks 15 = .ok (.isub, 1) := by decide +kernel
theorem dX4_seeks_16 : decode cX4_seeks 16 = .ok (.istore_n 2, 1) := by decide +kernel
theorem dX4_seeks_17 : decode cX4_seeks 17 = .ok (.aload_n 0, 1) := by decide +kernel
theorem dX4_seeks_18 : decode cX4_seeks 18 = .ok (.iconst 0, 1) := by decide +kernel
theorem dX4_seeks_19 : decode cX4_seeks 19 = .ok (.invokevirtual 180, 3) := by decide +kernel
theorem dX4_seeks_22 : decode cX4_seeks 22 = .ok (.iconst 0, 1) := by decide +kernel
theorem dX4_seeks_23 : decode cX4_seeks 23 = .ok (.istore_n 3, 1) := by decide +kernel
theorem dX4_seeks_24 : decode cX4_seeks 24 = .ok (.iconst 0, 1) := by decide +kernel
theorem dX4_seeks_25 : decode cX4_seeks 25 = .ok (.istore 4, 2) := by decide +kernel
theorem dX4_seeks_27 : decode cX4_seeks 27 = .ok (.aload_n 0, 1) := by decide +kernel
theorem dX4_seeks_28 : decode cX4_seeks 28 = .ok (.getfield 54, 3) := by decide +kernel
theorem dX4_seeks_31 : decode cX4_seeks 31 = .ok (.iconst 0, 1) := by decide +kernel
theorem dX4_seeks_32 : decode cX4_seeks 32 = .ok (.iconst (-1), 1) := by decide +kernel
theorem dX4_seeks_33 : decode cX4_seeks 33 = .ok (.iastore, 1) := by decide +kernel
theorem dX4_seeks_34 : decode cX4_seeks 34 = .ok (.iload_n 3, 1) := by decide +kernel
theorem dX4_seeks_35 : decode cX4_seeks 35 = .ok (.ifCond .lt 210, 3) := by decide +kernel
theorem dX4_seeks_38 : decode cX4_seeks 38 = .ok (.iload 4, 2) := by decide +kernel
theorem dX4_seeks_40 : decode cX4_seeks 40 = .ok (.aload_n 0, 1) := by decide +kernel
theorem dX4_seeks_41 : decode cX4_seeks 41 = .ok (.getfield 54, 3) := by decide +kernel
theorem dX4_seeks_44 : decode cX4_seeks 44 = .ok (.iload_n 3, 1) := by decide +kernel
theorem dX4_seeks_45 : decode cX4_seeks 45 = .ok (.iaload, 1) := by decide +kernel
theorem dX4_seeks_46 : decode cX4_seeks 46 = .ok (.ifCond .ge 7, 3) := by decide +kernel
theorem dX4_seeks_49 : decode cX4_seeks 49 = .ok (.iconst 0, 1) := by decide +kernel
theorem dX4_seeks_50 : decode cX4_seeks 50 = .ok (.goto 12, 3) := by decide +kernel
theorem dX4_seeks_53 : decode cX4_seeks 53 = .ok (.aload_n 0, 1) := by decide +kernel
theorem dX4_seeks_54 : decode cX4_seeks 54 = .ok (.getfield 54, 3) := by decide +kernel
theorem dX4_seeks_57 : decode cX4_seeks 57 = .ok (.iload_n 3, 1) := by decide +kernel
theorem dX4_seeks_58 : decode cX4_seeks 58 = .ok (.iaload, 1) := by decide +kernel
theorem dX4_seeks_59 : decode cX4_seeks 59 = .ok (.invokestatic 155, 3) := by decide +kernel
theorem dX4_seeks_62 : decode cX4_seeks 62 = .ok (.isub, 1) := by decide +kernel
theorem dX4_seeks_63 : decode cX4_seeks 63 = .ok (.istore 4, 2) := by decide +kernel
theorem dX4_seeks_65 : decode cX4_seeks 65 = .ok (.aload_n 0, 1) := by decide +kernel
theorem dX4_seeks_66 : decode cX4_seeks 66 = .ok (.getfield 54, 3) := by decide +kernel
theorem dX4_seeks_69 : decode cX4_seeks 69 = .ok (.iload_n 3, 1) := by decide +kernel
theorem dX4_seeks_70 : decode cX4_seeks 70 = .ok (.dup2, 1) := by decide +kernel
theorem dX4_seeks_71 : decode cX4_seeks 71 = .ok (.iaload, 1) := by decide +kernel
theorem dX4_seeks_72 : decode cX4_seeks 72 = .ok (.iconst 1, 1) := by decide +kernel
theorem dX4_seeks_73 : decode cX4_seeks 73 = .ok (.iadd, 1) := by decide +kernel
theorem dX4_seeks_74 : decode cX4_seeks 74 = .ok (.iastore, 1) := by decide +kernel
theorem dX4_seeks_75 : decode cX4_seeks 75 = .ok (.aload_n 0, 1) := by decide +kernel
theorem dX4_seeks_76 : decode cX4_seeks 76 = .ok (.getfield 54, 3) := by decide +kernel
theorem dX4_seeks_79 : decode cX4_seeks 79 = .ok (.iload_n 3, 1) := by decide +kernel
theorem dX4_seeks_80 : decode cX4_seeks 80 = .ok (.iaload, 1) := by decide +kernel
theorem dX4_seeks_81 : decode cX4_seeks 81 = .ok (.iload_n 2, 1) := by decide +kernel
theorem dX4_seeks_82 : decode cX4_seeks 82 = .ok (.if_icmp .le 18, 3) := by decide +kernel
theorem dX4_seeks_85 : decode cX4_seeks 85 = .ok (.iinc 3 (-1), 3) := by decide +kernel
theorem dX4_seeks_88 : decode cX4_seeks 88 = .ok (.iload_n 3, 1) := by decide +kernel
theorem dX4_seeks_89 : decode cX4_seeks 89 = .ok (.ifCond .lt (-55), 3) := by decide +kernel
theorem dX4_seeks_92 : decode cX4_seeks 92 = .ok (.aload_n 0, 1) := by decide +kernel
theorem dX4_seeks_93 : decode cX4_seeks 93 = .ok (.iload_n 3, 1) := by decide +kernel
theorem dX4_seeks_94 : decode cX4_seeks 94 = .ok (.invokevirtual 184, 3) := by decide +kernel
theorem dX4_seeks_97 : decode cX4_seeks 97 = .ok (.goto (-63), 3) := by decide +kernel
theorem dX4_seeks_100 : decode cX4_seeks 100 = .ok (.iload 4, 2) := by decide +kernel
theorem dX4_seeks_102 : decode cX4_seeks 102 = .ok (.aload_n 0, 1) := by decide +kernel
theorem dX4_seeks_103 : decode cX4_seeks 103 = .ok (.getfield 54, 3) := by decide +kernel
theorem dX4_seeks_106 : decode cX4_seeks 106 = .ok (.iload_n 3, 1) := by decide +kernel
theorem dX4_seeks_107 : decode cX4_seeks 107 = .ok (.iaload, 1) := by decide +kernel
theorem dX4_seeks_108 : decode cX4_seeks 108 = .ok (.invokestatic 155, 3) := by decide +kernel
theorem dX4_seeks_111 : decode cX4_seeks 111 = .ok (.iadd, 1) := by decide +kernel
theorem dX4_seeks_112 : decode cX4_seeks 112 = .ok (.istore 4, 2) := by decide +kernel
theorem dX4_seeks_114 : decode cX4_seeks 114 = .ok (.aload_n 0, 1) := by decide +kernel
theorem dX4_seeks_115 : decode cX4_seeks 115 = .ok (.aload_n 0, 1) := by decide +kernel
theorem dX4_seeks_116 : decode cX4_seeks 116 = .ok (.getfield 54, 3) := by decide +kernel
theorem dX4_seeks_119 : decode cX4_seeks 119 = .ok (.iload_n 3, 1) := by decide +kernel
theorem dX4_seeks_120 : decode cX4_seeks 120 = .ok (.iaload, 1) := by decide +kernel
theorem dX4_seeks_121 : decode cX4_seeks 121 = .ok (.invokevirtual 162, 3) := by decide +kernel
theorem dX4_seeks_124 : decode cX4_seeks 124 = .ok (.istore 5, 2) := by decide +kernel
theorem dX4_seeks_126 : decode cX4_seeks 126 = .ok (.iload 5, 2) := by decide +kernel
theorem dX4_seeks_128 : decode cX4_seeks 128 = .ok (.invokestatic 155, 3) := by decide +kernel
theorem dX4_seeks_131 : decode cX4_seeks 131 = .ok (.aload_n 0, 1) := by decide +kernel
theorem dX4_seeks_132 : decode cX4_seeks 132 = .ok (.getfield 13, 3) := by decide +kernel
theorem dX4_seeks_135 : decode cX4_seeks 135 = .ok (.iconst 1, 1) := by decide +kernel
theorem dX4_seeks_136 : decode cX4_seeks 136 = .ok (.iaload, 1) := by decide +kernel
theorem dX4_seeks_137 : decode cX4_seeks 137 = .ok (.if_icmp .lt 25, 3) := by decide +kernel
theorem dX4_seeks_140 : decode cX4_seeks 140 = .ok (.aload_n 0, 1) := by decide +kernel
theorem dX4_seeks_141 : decode cX4_seeks 141 = .ok (.getfield 177, 3) := by decide +kernel
theorem dX4_seeks_144 : decode cX4_seeks 144 = .ok (.bipush (-9), 2) := by decide +kernel
theorem dX4_seeks_146 : decode cX4_seeks 146 = .ok (.if_icmp .eq 12, 3) := by decide +kernel
theorem dX4_seeks_149 : decode cX4_seeks 149 = .ok (.iload 4, 2) := by decide +kernel
theorem dX4_seeks_151 : decode cX4_seeks 151 = .ok (.aload_n 0, 1) := by decide +kernel
theorem dX4_seeks_152 : decode cX4_seeks 152 = .ok (.getfield 177, 3) := by decide +kernel
theorem dX4_seeks_155 : decode cX4_seeks 155 = .ok (.if_icmp .ge 7, 3) := by decide +kernel
theorem dX4_seeks_158 : decode cX4_seeks 158 = .ok (.iconst 1, 1) := by decide +kernel
theorem dX4_seeks_159 : decode cX4_seeks 159 = .ok (.goto 4, 3) := by decide +kernel
theorem dX4_seeks_162 : decode cX4_seeks 162 = .ok (.iconst 0, 1) := by decide +kernel
theorem dX4_seeks_163 : decode cX4_seeks 163 = .ok (.istore 6, 2) := by decide +kernel
theorem dX4_seeks_165 : decode cX4_seeks 165 = .ok (.iload 6, 2) := by decide +kernel
theorem dX4_seeks_167 : decode cX4_seeks 167 = .ok (.ifCond .eq 48, 3) := by decide +kernel
theorem dX4_seeks_170 : decode cX4_seeks 170 = .ok (.iload_n 3, 1) := by decide +kernel
theorem dX4_seeks_171 : decode cX4_seeks 171 = .ok (.iconst 1, 1) := by decide +kernel
theorem dX4_seeks_172 : decode cX4_seeks 172 = .ok (.iadd, 1) := by decide +kernel
theorem dX4_seeks_173 : decode cX4_seeks 173 = .ok (.iload_n 1, 1) := by decide +kernel
theorem dX4_seeks_174 : decode cX4_seeks 174 = .ok (.if_icmp .ne 41, 3) := by decide +kernel
theorem dX4_seeks_177 : decode cX4_seeks 177 = .ok (.aload_n 0, 1) := by decide +kernel
theorem dX4_seeks_178 : decode cX4_seeks 178 = .ok (.iload 4, 2) := by decide +kernel
theorem dX4_seeks_180 : decode cX4_seeks 180 = .ok (.putfield 177, 3) := by decide +kernel
theorem dX4_seeks_183 : decode cX4_seeks 183 = .ok (.iconst 0, 1) := by decide +kernel
theorem dX4_seeks_184 : decode cX4_seeks 184 = .ok (.istore 7, 2) := by decide +kernel
theorem dX4_seeks_186 : decode cX4_seeks 186 = .ok (.iload 7, 2) := by decide +kernel
theorem dX4_seeks_188 : decode cX4_seeks 188 = .ok (.iload_n 1, 1) := by decide +kernel
theorem dX4_seeks_189 : decode cX4_seeks 189 = .ok (.if_icmp .ge 23, 3) := by decide +kernel
theorem dX4_seeks_192 : decode cX4_seeks 192 = .ok (.aload_n 0, 1) := by decide +kernel
theorem dX4_seeks_193 : decode cX4_seeks 193 = .ok (.getfield 57, 3) := by decide +kernel
theorem dX4_seeks_196 : decode cX4_seeks 196 = .ok (.iload 7, 2) := by decide +kernel
theorem dX4_seeks_198 : decode cX4_seeks 198 = .ok (.aload_n 0, 1) := by decide +kernel
theorem dX4_seeks_199 : decode cX4_seeks 199 = .ok (.getfield 54, 3) := by decide +kernel
theorem dX4_seeks_202 : decode cX4_seeks 202 = .ok (.iload 7, 2) := by decide +kernel
theorem dX4_seeks_204 : decode cX4_seeks 204 = .ok (.iaload, 1) := by decide +kernel
theorem dX4_seeks_205 : decode cX4_seeks 205 = .ok (.iastore, 1) := by decide +kernel
theorem dX4_seeks_206 : decode cX4_seeks 206 = .ok (.iinc 7 1, 3) := by decide +kernel
theorem dX4_seeks_209 : decode cX4_seeks 209 = .ok (.goto (-23), 3) := by decide +kernel
theorem dX4_seeks_212 : decode cX4_seeks 212 = .ok (.goto 30, 3) := by decide +kernel
theorem dX4_seeks_215 : decode cX4_seeks 215 = .ok (.iload 6, 2) := by decide +kernel
theorem dX4_seeks_217 : decode cX4_seeks 217 = .ok (.ifCond .eq 25, 3) := by decide +kernel
theorem dX4_seeks_220 : decode cX4_seeks 220 = .ok (.aload_n 0, 1) := by decide +kernel
theorem dX4_seeks_221 : decode cX4_seeks 221 = .ok (.iload 5, 2) := by decide +kernel
theorem dX4_seeks_223 : decode cX4_seeks 223 = .ok (.invokevirtual 165, 3) := by decide +kernel
theorem dX4_seeks_226 : decode cX4_seeks 226 = .ok (.pop, 1) := by decide +kernel
theorem dX4_seeks_227 : decode cX4_seeks 227 = .ok (.iinc 3 1, 3) := by decide +kernel
theorem dX4_seeks_230 : decode cX4_seeks 230 = .ok (.aload_n 0, 1) := by decide +kernel
theorem dX4_seeks_231 : decode cX4_seeks 231 = .ok (.iload_n 3, 1) := by decide +kernel
theorem dX4_seeks_232 : decode cX4_seeks 232 = .ok (.invokevirtual 180, 3) := by decide +kernel
theorem dX4_seeks_235 : decode cX4_seeks 235 = .ok (.aload_n 0, 1) := by decide +kernel
theorem dX4_seeks_236 : decode cX4_seeks 236 = .ok (.getfield 54, 3) := by decide +kernel
theorem dX4_seeks_239 : decode cX4_seeks 239 = .ok (.iload_n 3, 1) := by decide +kernel
theorem dX4_seeks_240 : decode cX4_seeks 240 = .ok (.iconst (-1), 1) := by decide +kernel
theorem dX4_seeks_241 : decode cX4_seeks 241 = .ok (.iastore, 1) := by decide +kernel
theorem dX4_seeks_242 : decode cX4_seeks 242 = .ok (.goto (-208), 3) := by decide +kernel
theorem dX4_seeks_245 : decode cX4_seeks 245 = .ok (.return_, 1) := by decide +kernel
theorem dX4_callUp_0 : decode cX4_callUp 0 = .ok (.iload_n 1, 1) := by decide +kernel
theorem dX4_callUp_1 : decode cX4_callUp 1 = .ok (.iconst 1, 1) := by decide +kernel
theorem dX4_callUp_2 : decode cX4_callUp 2 = .ok (.iconst 3, 1) := by decide +kernel
theorem dX4_callUp_3 : decode cX4_callUp 3 = .ok (.invokestatic 67, 3) := by decide +kernel
theorem dX4_callUp_6 : decode cX4_callUp 6 = .ok (.ifCond .eq 8, 3) := by decide +kernel
theorem dX4_callUp_9 : decode cX4_callUp 9 = .ok (.iload_n 2, 1) := by decide +kernel
theorem dX4_callUp_10 : decode cX4_callUp 10 = .ok (.iconst (-1), 1) := by decide +kernel
theorem dX4_callUp_11 : decode cX4_callUp 11 = .ok (.if_icmp .ge 5, 3) := by decide +kernel
theorem dX4_callUp_14 : decode cX4_callUp 14 = .ok (.iconst (-1), 1) := by decide +kernel
theorem dX4_callUp_15 : decode cX4_callUp 15 = .ok (.ireturn, 1) := by decide +kernel
theorem dX4_callUp_16 : decode cX4_callUp 16 = .ok (.iload_n 2, 1) := by decide +kernel
theorem dX4_callUp_17 : decode cX4_callUp 17 = .ok (.iload_n 1, 1) := by decide +kernel
theorem dX4_callUp_18 : decode cX4_callUp 18 = .ok (.if_icmp .lt 6, 3) := by decide +kernel
theorem dX4_callUp_21 : decode cX4_callUp 21 = .ok (.bipush (-5), 2) := by decide +kernel
theorem dX4_callUp_23 : decode cX4_callUp 23 = .ok (.ireturn, 1) := by decide +kernel
theorem dX4_callUp_24 : decode cX4_callUp 24 = .ok (.aload_n 0, 1) := by decide +kernel
theorem dX4_callUp_25 : decode cX4_callUp 25 = .ok (.iload_n 1, 1) := by decide +kernel
theorem dX4_callUp_26 : decode cX4_callUp 26 = .ok (.invokevirtual 187, 3) := by decide +kernel
theorem dX4_callUp_29 : decode cX4_callUp 29 = .ok (.aload_n 0, 1) := by decide +kernel
theorem dX4_callUp_30 : decode cX4_callUp 30 = .ok (.getfield 177, 3) := by decide +kernel
theorem dX4_callUp_33 : decode cX4_callUp 33 = .ok (.bipush (-9), 2) := by decide +kernel
theorem dX4_callUp_35 : decode cX4_callUp 35 = .ok (.if_icmp .eq 8, 3) := by decide +kernel
theorem dX4_callUp_38 : decode cX4_callUp 38 = .ok (.iload_n 2, 1) := by decide +kernel
theorem dX4_callUp_39 : decode cX4_callUp 39 = .ok (.iconst (-1), 1) := by decide +kernel
theorem dX4_callUp_40 : decode cX4_callUp 40 = .ok (.if_icmp .ne 10, 3) := by decide +kernel
theorem dX4_callUp_43 : decode cX4_callUp 43 = .ok (.aload_n 0, 1) := by decide +kernel
theorem dX4_callUp_44 : decode cX4_callUp 44 = .ok (.getfield 177, 3) := by decide +kernel
theorem dX4_callUp_47 : decode cX4_callUp 47 = .ok (.goto 9, 3) := by decide +kernel
theorem dX4_callUp_50 : decode cX4_callUp 50 = .ok (.aload_n 0, 1) := by decide +kernel
theorem dX4_callUp_51 : decode cX4_callUp 51 = .ok (.getfield 57, 3) := by decide +kernel
theorem dX4_callUp_54 : decode cX4_callUp 54 = .ok (.iload_n 2, 1) := by decide +kernel
theorem dX4_callUp_55 : decode cX4_callUp 55 = .ok (.iaload, 1) := by decide +kernel
theorem dX4_callUp_56 : decode cX4_callUp 56 = .ok (.ireturn, 1) := by decide +kernel
theorem dX4_bears_0 : decode cX4_bears 0 = .ok (.aload_n 0, 1) := by decide +kernel
theorem dX4_bears_1 : decode cX4_bears 1 = .ok (.bipush 8, 2) := by decide +kernel
theorem dX4_bears_3 : decode cX4_bears 3 = .ok (.invokevirtual 174, 3) := by decide +kernel
theorem dX4_bears_6 : decode cX4_bears 6 = .ok (.bipush (-9), 2) := by decide +kernel
theorem dX4_bears_8 : decode cX4_bears 8 = .ok (.if_icmp .eq 5, 3) := by decide +kernel
theorem dX4_bears_11 : decode cX4_bears 11 = .ok (.iconst 0, 1) := by decide +kernel
theorem dX4_bears_12 : decode cX4_bears 12 = .ok (.ireturn, 1) := by decide +kernel
theorem dX4_bears_13 : decode cX4_bears 13 = .ok (.iconst 0, 1) := by decide +kernel
theorem dX4_bears_14 : decode cX4_bears 14 = .ok (.istore_n 1, 1) := by decide +kernel
theorem dX4_bears_15 : decode cX4_bears 15 = .ok (.iconst 0, 1) := by decide +kernel
theorem dX4_bears_16 : decode cX4_bears 16 = .ok (.istore_n 2, 1) := by decide +kernel
theorem dX4_bears_17 : decode cX4_bears 17 = .ok (.iload_n 2, 1) := by decide +kernel
theorem dX4_bears_18 : decode cX4_bears 18 = .ok (.aload_n 0, 1) := by decide +kernel
theorem dX4_bears_19 : decode cX4_bears 19 = .ok (.getfield 13, 3) := by decide +kernel
theorem dX4_bears_22 : decode cX4_bears 22 = .ok (.iconst 2, 1) := by decide +kernel
theorem dX4_bears_23 : decode cX4_bears 23 = .ok (.iaload, 1) := by decide +kernel
theorem dX4_bears_24 : decode cX4_bears 24 = .ok (.if_icmp .ge 35, 3) := by decide +kernel
theorem dX4_bears_27 : decode cX4_bears 27 = .ok (.aload_n 0, 1) := by decide +kernel
theorem dX4_bears_28 : decode cX4_bears 28 = .ok (.iload_n 2, 1) := by decide +kernel
theorem dX4_bears_29 : decode cX4_bears 29 = .ok (.putfield 39, 3) := by decide +kernel
theorem dX4_bears_32 : decode cX4_bears 32 = .ok (.iload_n 1, 1) := by decide +kernel
theorem dX4_bears_33 : decode cX4_bears 33 = .ok (.aload_n 0, 1) := by decide +kernel
theorem dX4_bears_34 : decode cX4_bears 34 = .ok (.bipush 8, 2) := by decide +kernel
theorem dX4_bears_36 : decode cX4_bears 36 = .ok (.invokevirtual 174, 3) := by decide +kernel
theorem dX4_bears_39 : decode cX4_bears 39 = .ok (.bipush (-9), 2) := by decide +kernel
theorem dX4_bears_41 : decode cX4_bears 41 = .ok (.if_icmp .ne 9, 3) := by decide +kernel
theorem dX4_bears_44 : decode cX4_bears 44 = .ok (.iconst 1, 1) := by decide +kernel
theorem dX4_bears_45 : decode cX4_bears 45 = .ok (.iload_n 2, 1) := by decide +kernel
theorem dX4_bears_46 : decode cX4_bears 46 = .ok (.ishl, 1) := by decide +kernel
theorem dX4_bears_47 : decode cX4_bears 47 = .ok (.goto 4, 3) := by decide +kernel
theorem dX4_bears_50 : decode cX4_bears 50 = .ok (.iconst 0, 1) := by decide +kernel
theorem dX4_bears_51 : decode cX4_bears 51 = .ok (.ior, 1) := by decide +kernel
theorem dX4_bears_52 : decode cX4_bears 52 = .ok (.istore_n 1, 1) := by decide +kernel
theorem dX4_bears_53 : decode cX4_bears 53 = .ok (.iinc 2 1, 3) := by decide +kernel
theorem dX4_bears_56 : decode cX4_bears 56 = .ok (.goto (-39), 3) := by decide +kernel
theorem dX4_bears_59 : decode cX4_bears 59 = .ok (.aload_n 0, 1) := by decide +kernel
theorem dX4_bears_60 : decode cX4_bears 60 = .ok (.bipush (-9), 2) := by decide +kernel
theorem dX4_bears_62 : decode cX4_bears 62 = .ok (.putfield 39, 3) := by decide +kernel
theorem dX4_bears_65 : decode cX4_bears 65 = .ok (.iload_n 1, 1) := by decide +kernel
theorem dX4_bears_66 : decode cX4_bears 66 = .ok (.ireturn, 1) := by decide +kernel
theorem dX4_cart_0 : decode cX4_cart 0 = .ok (.aload_n 0, 1) := by decide +kernel
theorem dX4_cart_1 : decode cX4_cart 1 = .ok (.iload_n 1, 1) := by decide +kernel
theorem dX4_cart_2 : decode cX4_cart 2 = .ok (.invokevirtual 133, 3) := by decide +kernel
theorem dX4_cart_5 : decode cX4_cart 5 = .ok (.ifCond .eq 31, 3) := by decide +kernel
theorem dX4_cart_8 : decode cX4_cart 8 = .ok (.aload_n 0, 1) := by decide +kernel
theorem dX4_cart_9 : decode cX4_cart 9 = .ok (.iload_n 2, 1) := by decide +kernel
theorem dX4_cart_10 : decode cX4_cart 10 = .ok (.invokevirtual 133, 3) := by decide +kernel
theorem dX4_cart_13 : decode cX4_cart 13 = .ok (.ifCond .eq 23, 3) := by decide +kernel
theorem dX4_cart_16 : decode cX4_cart 16 = .ok (.iload_n 3, 1) := by decide +kernel
theorem dX4_cart_17 : decode cX4_cart 17 = .ok (.iconst 1, 1) := by decide +kernel
theorem dX4_cart_18 : decode cX4_cart 18 = .ok (.bipush 9, 2) := by decide +kernel
theorem dX4_cart_20 : decode cX4_cart 20 = .ok (.invokestatic 67, 3) := by decide +kernel
theorem dX4_cart_23 : decode cX4_cart 23 = .ok (.ifCond .eq 13, 3) := by decide +kernel
theorem dX4_cart_26 : decode cX4_cart 26 = .ok (.iload 4, 2) := by decide +kernel
theorem dX4_cart_28 : decode cX4_cart 28 = .ok (.iconst 0, 1) := by decide +kernel
theorem dX4_cart_29 : decode cX4_cart 29 = .ok (.iconst 1, 1) := by decide +kernel
theorem dX4_cart_30 : decode cX4_cart 30 = .ok (.invokestatic 67, 3) := by decide +kernel
theorem dX4_cart_33 : decode cX4_cart 33 = .ok (.ifCond .ne 5, 3) := by decide +kernel
theorem dX4_cart_36 : decode cX4_cart 36 = .ok (.iconst (-1), 1) := by decide +kernel
theorem dX4_cart_37 : decode cX4_cart 37 = .ok (.ireturn, 1) := by decide +kernel
theorem dX4_cart_38 : decode cX4_cart 38 = .ok (.aload_n 0, 1) := by decide +kernel
theorem dX4_cart_39 : decode cX4_cart 39 = .ok (.aload_n 0, 1) := by decide +kernel
theorem dX4_cart_40 : decode cX4_cart 40 = .ok (.invokevirtual 158, 3) := by decide +kernel
theorem dX4_cart_43 : decode cX4_cart 43 = .ok (.invokevirtual 162, 3) := by decide +kernel
theorem dX4_cart_46 : decode cX4_cart 46 = .ok (.istore 5, 2) := by decide +kernel
theorem dX4_cart_48 : decode cX4_cart 48 = .ok (.bipush (-9), 2) := by decide +kernel
theorem dX4_cart_50 : decode cX4_cart 50 = .ok (.istore 6, 2) := by decide +kernel
theorem dX4_cart_52 : decode cX4_cart 52 = .ok (.iconst 0, 1) := by decide +kernel
theorem dX4_cart_53 : decode cX4_cart 53 = .ok (.istore 7, 2) := by decide +kernel
theorem dX4_cart_55 : decode cX4_cart 55 = .ok (.iload 7, 2) := by decide +kernel
theorem dX4_cart_57 : decode cX4_cart 57 = .ok (.iconst 1, 1) := by decide +kernel
theorem dX4_cart_58 : decode cX4_cart 58 = .ok (.aload_n 0, 1) := by decide +kernel
theorem dX4_cart_59 : decode cX4_cart 59 = .ok (.getfield 13, 3) := by decide +kernel
theorem dX4_cart_62 : decode cX4_cart 62 = .ok (.iconst 0, 1) := by decide +kernel
theorem dX4_cart_63 : decode cX4_cart 63 = .ok (.iaload, 1) := by decide +kernel
theorem dX4_cart_64 : decode cX4_cart 64 = .ok (.ishl, 1) := by decide +kernel
theorem dX4_cart_65 : decode cX4_cart 65 = .ok (.if_icmp .ge 154, 3) := by decide +kernel
theorem dX4_cart_68 : decode cX4_cart 68 = .ok (.iload 7, 2) := by decide +kernel
theorem dX4_cart_70 : decode cX4_cart 70 = .ok (.iload_n 1, 1) := by decide +kernel
theorem dX4_cart_71 : decode cX4_cart 71 = .ok (.ishr, 1) := by decide +kernel
theorem dX4_cart_72 : decode cX4_cart 72 = .ok (.iconst 1, 1) := by decide +kernel
theorem dX4_cart_73 : decode cX4_cart 73 = .ok (.iand, 1) := by decide +kernel
theorem dX4_cart_74 : decode cX4_cart 74 = .ok (.iconst 1, 1) := by decide +kernel
theorem dX4_cart_75 : decode cX4_cart 75 = .ok (.if_icmp .ne 138, 3) := by decide +kernel
theorem dX4_cart_78 : decode cX4_cart 78 = .ok (.iload 7, 2) := by decide +kernel
theorem dX4_cart_80 : decode cX4_cart 80 = .ok (.iload_n 2, 1) := by decide +kernel
theorem dX4_cart_81 : decode cX4_cart 81 = .ok (.ishr, 1) := by decide +kernel
theorem dX4_cart_82 : decode cX4_cart 82 = .ok (.iconst 1, 1) := by decide +kernel
theorem dX4_cart_83 : decode cX4_cart 83 = .ok (.iand, 1) := by decide +kernel
theorem dX4_cart_84 : decode cX4_cart 84 = .ok (.iconst 1, 1) := by decide +kernel
theorem dX4_cart_85 : decode cX4_cart 85 = .ok (.if_icmp .ne 128, 3) := by decide +kernel
theorem dX4_cart_88 : decode cX4_cart 88 = .ok (.aload_n 0, 1) := by decide +kernel
theorem dX4_cart_89 : decode cX4_cart 89 = .ok (.iload_n 1, 1) := by decide +kernel
theorem dX4_cart_90 : decode cX4_cart 90 = .ok (.iload_n 2, 1) := by decide +kernel
theorem dX4_cart_91 : decode cX4_cart 91 = .ok (.iload 7, 2) := by decide +kernel
theorem dX4_cart_93 : decode cX4_cart 93 = .ok (.invokevirtual 190, 3) := by decide +kernel
theorem dX4_cart_96 : decode cX4_cart 96 = .ok (.istore 8, 2) := by decide +kernel
theorem dX4_cart_98 : decode cX4_cart 98 = .ok (.iconst 0, 1) := by decide +kernel
theorem dX4_cart_99 : decode cX4_cart 99 = .ok (.istore 9, 2) := by decide +kernel
theorem dX4_cart_101 : decode cX4_cart 101 = .ok (.iconst 0, 1) := by decide +kernel
theorem dX4_cart_102 : decode cX4_cart 102 = .ok (.istore 10, 2) := by decide +kernel
theorem dX4_cart_104 : decode cX4_cart 104 = .ok (.iload 10, 2) := by decide +kernel
theorem dX4_cart_106 : decode cX4_cart 106 = .ok (.aload_n 0, 1) := by decide +kernel
theorem dX4_cart_107 : decode cX4_cart 107 = .ok (.getfield 13, 3) := by decide +kernel
theorem dX4_cart_110 : decode cX4_cart 110 = .ok (.iconst 2, 1) := by decide +kernel
theorem dX4_cart_111 : decode cX4_cart 111 = .ok (.iaload, 1) := by decide +kernel
theorem dX4_cart_112 : decode cX4_cart 112 = .ok (.if_icmp .ge 63, 3) := by decide +kernel
theorem dX4_cart_115 : decode cX4_cart 115 = .ok (.iload 9, 2) := by decide +kernel
theorem dX4_cart_117 : decode cX4_cart 117 = .ok (.iload 5, 2) := by decide +kernel
theorem dX4_cart_119 : decode cX4_cart 119 = .ok (.iload 10, 2) := by decide +kernel
theorem dX4_cart_121 : decode cX4_cart 121 = .ok (.ishr, 1) := by decide +kernel
theorem dX4_cart_122 : decode cX4_cart 122 = .ok (.iconst 1, 1) := by decide +kernel
theorem dX4_cart_123 : decode cX4_cart 123 = .ok (.iand, 1) := by decide +kernel
theorem dX4_cart_124 : decode cX4_cart 124 = .ok (.iconst 1, 1) := by decide +kernel
theorem dX4_cart_125 : decode cX4_cart 125 = .ok (.if_icmp .ne 40, 3) := by decide +kernel
theorem dX4_cart_128 : decode cX4_cart 128 = .ok (.iload 7, 2) := by decide +kernel
theorem dX4_cart_130 : decode cX4_cart 130 = .ok (.aload_n 0, 1) := by decide +kernel
theorem dX4_cart_131 : decode cX4_cart 131 = .ok (.getfield 13, 3) := by decide +kernel
theorem dX4_cart_134 : decode cX4_cart 134 = .ok (.bipush 14, 2) := by decide +kernel
theorem dX4_cart_136 : decode cX4_cart 136 = .ok (.iload 10, 2) := by decide +kernel
theorem dX4_cart_138 : decode cX4_cart 138 = .ok (.iadd, 1) := by decide +kernel
theorem dX4_cart_139 : decode cX4_cart 139 = .ok (.iaload, 1) := by decide +kernel
theorem dX4_cart_140 : decode cX4_cart 140 = .ok (.ishr, 1) := by decide +kernel
theorem dX4_cart_141 : decode cX4_cart 141 = .ok (.iconst 1, 1) := by decide +kernel
theorem dX4_cart_142 : decode cX4_cart 142 = .ok (.iand, 1) := by decide +kernel
theorem dX4_cart_143 : decode cX4_cart 143 = .ok (.iconst 1, 1) := by decide +kernel
theorem dX4_cart_144 : decode cX4_cart 144 = .ok (.if_icmp .ne 21, 3) := by decide +kernel
theorem dX4_cart_147 : decode cX4_cart 147 = .ok (.aload_n 0, 1) := by decide +kernel
theorem dX4_cart_148 : decode cX4_cart 148 = .ok (.getfield 13, 3) := by decide +kernel
theorem dX4_cart_151 : decode cX4_cart 151 = .ok (.bipush 32, 2) := by decide +kernel
theorem dX4_cart_153 : decode cX4_cart 153 = .ok (.iload 10, 2) := by decide +kernel
theorem dX4_cart_155 : decode cX4_cart 155 = .ok (.iadd, 1) := by decide +kernel
theorem dX4_cart_156 : decode cX4_cart 156 = .ok (.iaload, 1) := by decide +kernel
theorem dX4_cart_157 : decode cX4_cart 157 = .ok (.iload_n 3, 1) := by decide +kernel
theorem dX4_cart_158 : decode cX4_cart 158 = .ok (.if_icmp .ge 7, 3) := by decide +kernel
theorem dX4_cart_161 : decode cX4_cart 161 = .ok (.iconst 1, 1) := by decide +kernel
theorem dX4_cart_162 : decode cX4_cart 162 = .ok (.goto 4, 3) := by decide +kernel
theorem dX4_cart_165 : decode cX4_cart 165 = .ok (.iconst 0, 1) := by decide +kernel
theorem dX4_cart_166 : decode cX4_cart 166 = .ok (.iadd, 1) := by decide +kernel
theorem dX4_cart_167 : decode cX4_cart 167 = .ok (.istore 9, 2) := by decide +kernel
theorem dX4_cart_169 : decode cX4_cart 169 = .ok (.iinc 10 1, 3) := by decide +kernel
theorem dX4_cart_172 : decode cX4_cart 172 = .ok (.goto (-68), 3) := by decide +kernel
theorem dX4_cart_175 : decode cX4_cart 175 = .ok (.bipush 8, 2) := by decide +kernel
theorem dX4_cart_177 : decode cX4_cart 177 = .ok (.iload 9, 2) := by decide +kernel
theorem dX4_cart_179 : decode cX4_cart 179 = .ok (.imul, 1) := by decide +kernel
theorem dX4_cart_180 : decode cX4_cart 180 = .ok (.iload 8, 2) := by decide +kernel
theorem dX4_cart_182 : decode cX4_cart 182 = .ok (.iadd, 1) := by decide +kernel
theorem dX4_cart_183 : decode cX4_cart 183 = .ok (.istore 10, 2) := by decide +kernel
theorem dX4_cart_185 : decode cX4_cart 185 = .ok (.iload 8, 2) := by decide +kernel
theorem dX4_cart_187 : decode cX4_cart 187 = .ok (.ifCond .lt 22, 3) := by decide +kernel
theorem dX4_cart_190 : decode cX4_cart 190 = .ok (.iload 6, 2) := by decide +kernel
theorem dX4_cart_192 : decode cX4_cart 192 = .ok (.bipush (-9), 2) := by decide +kernel
theorem dX4_cart_194 : decode cX4_cart 194 = .ok (.if_icmp .eq 10, 3) := by decide +kernel
theorem dX4_cart_197 : decode cX4_cart 197 = .ok (.iload 10, 2) := by decide +kernel
theorem dX4_cart_199 : decode cX4_cart 199 = .ok (.iload 6, 2) := by decide +kernel
theorem dX4_cart_201 : decode cX4_cart 201 = .ok (.if_icmp .ge 8, 3) := by decide +kernel
theorem dX4_cart_204 : decode cX4_cart 204 = .ok (.iload 10, 2) := by decide +kernel
theorem dX4_cart_206 : decode cX4_cart 206 = .ok (.goto 5, 3) := by decide +kernel
theorem dX4_cart_209 : decode cX4_cart 209 = .ok (.iload 6, 2) := by decide +kernel
theorem dX4_cart_211 : decode cX4_cart 211 = .ok (.istore 6, 2) := by decide +kernel
theorem dX4_cart_213 : decode cX4_cart 213 = .ok (.iinc 7 1, 3) := by decide +kernel
theorem dX4_cart_216 : decode cX4_cart 216 = .ok (.goto (-161), 3) := by decide +kernel
theorem dX4_cart_219 : decode cX4_cart 219 = .ok (.iload 6, 2) := by decide +kernel
theorem dX4_cart_221 : decode cX4_cart 221 = .ok (.bipush (-9), 2) := by decide +kernel
theorem dX4_cart_223 : decode cX4_cart 223 = .ok (.if_icmp .ne 8, 3) := by decide +kernel
theorem dX4_cart_226 : decode cX4_cart 226 = .ok (.bipush (-9), 2) := by decide +kernel
theorem dX4_cart_228 : decode cX4_cart 228 = .ok (.goto 21, 3) := by decide +kernel
theorem dX4_cart_231 : decode cX4_cart 231 = .ok (.iload 4, 2) := by decide +kernel
theorem dX4_cart_233 : decode cX4_cart 233 = .ok (.ifCond .ne 11, 3) := by decide +kernel
theorem dX4_cart_236 : decode cX4_cart 236 = .ok (.iload 6, 2) := by decide +kernel
theorem dX4_cart_238 : decode cX4_cart 238 = .ok (.bipush 8, 2) := by decide +kernel
theorem dX4_cart_240 : decode cX4_cart 240 = .ok (.idiv, 1) := by decide +kernel
theorem dX4_cart_241 : decode cX4_cart 241 = .ok (.goto 8, 3) := by decide +kernel
theorem dX4_cart_244 : decode cX4_cart 244 = .ok (.iload 6, 2) := by decide +kernel
theorem dX4_cart_246 : decode cX4_cart 246 = .ok (.bipush 8, 2) := by decide +kernel
theorem dX4_cart_248 : decode cX4_cart 248 = .ok (.irem, 1) := by decide +kernel
theorem dX4_cart_249 : decode cX4_cart 249 = .ok (.ireturn, 1) := by decide +kernel
end
section
theorem dX4_far_0 : decode cX4_far 0 = .ok (.iconst 1, 1) := by decide +kernel
theorem dX4_far_1 : decode cX4_far 1 = .ok (.iload_n 1, 1) := by decide +kernel
theorem dX4_far_2 : decode cX4_far 2 = .ok (.ishl, 1) := by decide +kernel
theorem dX4_far_3 : decode cX4_far 3 = .ok (.istore 4, 2) := by decide +kernel
theorem dX4_far_5 : decode cX4_far 5 = .ok (.iconst 0, 1) := by decide +kernel
theorem dX4_far_6 : decode cX4_far 6 = .ok (.istore 5, 2) := by decide +kernel
theorem dX4_far_8 : decode cX4_far 8 = .ok (.iload 4, 2) := by decide +kernel
theorem dX4_far_10 : decode cX4_far 10 = .ok (.iload_n 2, 1) := by decide +kernel
theorem dX4_far_11 : decode cX4_far 11 = .ok (.ishr, 1) := by decide +kernel
theorem dX4_far_12 : decode cX4_far 12 = .ok (.iconst 1, 1) := by decide +kernel
theorem dX4_far_13 : decode cX4_far 13 = .ok (.iand, 1) := by decide +kernel
theorem dX4_far_14 : decode cX4_far 14 = .ok (.ifCond .ne 78, 3) := by decide +kernel
theorem dX4_far_17 : decode cX4_far 17 = .ok (.iload 4, 2) := by decide +kernel
theorem dX4_far_19 : decode cX4_far 19 = .ok (.istore 6, 2) := by decide +kernel
theorem dX4_far_21 : decode cX4_far 21 = .ok (.iconst 0, 1) := by decide +kernel
theorem dX4_far_22 : decode cX4_far 22 = .ok (.istore 7, 2) := by decide +kernel
theorem dX4_far_24 : decode cX4_far 24 = .ok (.iload 7, 2) := by decide +kernel
theorem dX4_far_26 : decode cX4_far 26 = .ok (.aload_n 0, 1) := by decide +kernel
theorem dX4_far_27 : decode cX4_far 27 = .ok (.getfield 13, 3) := by decide +kernel
theorem dX4_far_30 : decode cX4_far 30 = .ok (.iconst 0, 1) := by decide +kernel
theorem dX4_far_31 : decode cX4_far 31 = .ok (.iaload, 1) := by decide +kernel
theorem dX4_far_32 : decode cX4_far 32 = .ok (.if_icmp .ge 41, 3) := by decide +kernel
theorem dX4_far_35 : decode cX4_far 35 = .ok (.iload 6, 2) := by decide +kernel
theorem dX4_far_37 : decode cX4_far 37 = .ok (.iload 4, 2) := by decide +kernel
theorem dX4_far_39 : decode cX4_far 39 = .ok (.iload 7, 2) := by decide +kernel
theorem dX4_far_41 : decode cX4_far 41 = .ok (.ishr, 1) := by decide +kernel
theorem dX4_far_42 : decode cX4_far 42 = .ok (.iconst 1, 1) := by decide +kernel
theorem dX4_far_43 : decode cX4_far 43 = .ok (.iand, 1) := by decide +kernel
theorem dX4_far_44 : decode cX4_far 44 = .ok (.iconst 1, 1) := by decide +kernel
theorem dX4_far_45 : decode cX4_far 45 = .ok (.if_icmp .ne 18, 3) := by decide +kernel
theorem dX4_far_48 : decode cX4_far 48 = .ok (.aload_n 0, 1) := by decide +kernel
theorem dX4_far_49 : decode cX4_far 49 = .ok (.getfield 13, 3) := by decide +kernel
theorem dX4_far_52 : decode cX4_far 52 = .ok (.bipush 6, 2) := by decide +kernel
theorem dX4_far_54 : decode cX4_far 54 = .ok (.iload 7, 2) := by decide +kernel
theorem dX4_far_56 : decode cX4_far 56 = .ok (.iadd, 1) := by decide +kernel
theorem dX4_far_57 : decode cX4_far 57 = .ok (.iaload, 1) := by decide +kernel
theorem dX4_far_58 : decode cX4_far 58 = .ok (.iload_n 3, 1) := by decide +kernel
theorem dX4_far_59 : decode cX4_far 59 = .ok (.iand, 1) := by decide +kernel
theorem dX4_far_60 : decode cX4_far 60 = .ok (.goto 4, 3) := by decide +kernel
theorem dX4_far_63 : decode cX4_far 63 = .ok (.iconst 0, 1) := by decide +kernel
theorem dX4_far_64 : decode cX4_far 64 = .ok (.ior, 1) := by decide +kernel
theorem dX4_far_65 : decode cX4_far 65 = .ok (.istore 6, 2) := by decide +kernel
theorem dX4_far_67 : decode cX4_far 67 = .ok (.iinc 7 1, 3) := by decide +kernel
theorem dX4_far_70 : decode cX4_far 70 = .ok (.goto (-46), 3) := by decide +kernel
theorem dX4_far_73 : decode cX4_far 73 = .ok (.iload 6, 2) := by decide +kernel
theorem dX4_far_75 : decode cX4_far 75 = .ok (.iload 4, 2) := by decide +kernel
theorem dX4_far_77 : decode cX4_far 77 = .ok (.if_icmp .ne 5, 3) := by decide +kernel
theorem dX4_far_80 : decode cX4_far 80 = .ok (.iconst (-1), 1) := by decide +kernel
theorem dX4_far_81 : decode cX4_far 81 = .ok (.ireturn, 1) := by decide +kernel
theorem dX4_far_82 : decode cX4_far 82 = .ok (.iload 6, 2) := by decide +kernel
theorem dX4_far_84 : decode cX4_far 84 = .ok (.istore 4, 2) := by decide +kernel
theorem dX4_far_86 : decode cX4_far 86 = .ok (.iinc 5 1, 3) := by decide +kernel
theorem dX4_far_89 : decode cX4_far 89 = .ok (.goto (-81), 3) := by decide +kernel
theorem dX4_far_92 : decode cX4_far 92 = .ok (.iload 5, 2) := by decide +kernel
theorem dX4_far_94 : decode cX4_far 94 = .ok (.ireturn, 1) := by decide +kernel
theorem dX4_drum_0 : decode cX4_drum 0 = .ok (.aload_n 0, 1) := by decide +kernel
theorem dX4_drum_1 : decode cX4_drum 1 = .ok (.iload_n 1, 1) := by decide +kernel
theorem dX4_drum_2 : decode cX4_drum 2 = .ok (.invokevirtual 133, 3) := by decide +kernel
theorem dX4_drum_5 : decode cX4_drum 5 = .ok (.ifCond .ne 5, 3) := by decide +kernel
theorem dX4_drum_8 : decode cX4_drum 8 = .ok (.iconst (-1), 1) := by decide +kernel
theorem dX4_drum_9 : decode cX4_drum 9 = .ok (.ireturn, 1) := by decide +kernel
theorem dX4_drum_10 : decode cX4_drum 10 = .ok (.aload_n 0, 1) := by decide +kernel
theorem dX4_drum_11 : decode cX4_drum 11 = .ok (.iload_n 1, 1) := by decide +kernel
theorem dX4_drum_12 : decode cX4_drum 12 = .ok (.putfield 45, 3) := by decide +kernel
theorem dX4_drum_15 : decode cX4_drum 15 = .ok (.bipush (-9), 2) := by decide +kernel
theorem dX4_drum_17 : decode cX4_drum 17 = .ok (.istore_n 2, 1) := by decide +kernel
theorem dX4_drum_18 : decode cX4_drum 18 = .ok (.iconst 0, 1) := by decide +kernel
theorem dX4_drum_19 : decode cX4_drum 19 = .ok (.istore_n 3, 1) := by decide +kernel
theorem dX4_drum_20 : decode cX4_drum 20 = .ok (.iload_n 3, 1) := by decide +kernel
theorem dX4_drum_21 : decode cX4_drum 21 = .ok (.bipush 10, 2) := by decide +kernel
theorem dX4_drum_23 : decode cX4_drum 23 = .ok (.if_icmp .ge 40, 3) := by decide +kernel
theorem dX4_drum_26 : decode cX4_drum 26 = .ok (.aload_n 0, 1) := by decide +kernel
theorem dX4_drum_27 : decode cX4_drum 27 = .ok (.iload_n 3, 1) := by decide +kernel
theorem dX4_drum_28 : decode cX4_drum 28 = .ok (.putfield 145, 3) := by decide +kernel
theorem dX4_drum_31 : decode cX4_drum 31 = .ok (.aload_n 0, 1) := by decide +kernel
theorem dX4_drum_32 : decode cX4_drum 32 = .ok (.aload_n 0, 1) := by decide +kernel
theorem dX4_drum_33 : decode cX4_drum 33 = .ok (.invokevirtual 158, 3) := by decide +kernel
theorem dX4_drum_36 : decode cX4_drum 36 = .ok (.invokevirtual 162, 3) := by decide +kernel
theorem dX4_drum_39 : decode cX4_drum 39 = .ok (.invokestatic 155, 3) := by decide +kernel
theorem dX4_drum_42 : decode cX4_drum 42 = .ok (.aload_n 0, 1) := by decide +kernel
theorem dX4_drum_43 : decode cX4_drum 43 = .ok (.getfield 13, 3) := by decide +kernel
theorem dX4_drum_46 : decode cX4_drum 46 = .ok (.iconst 1, 1) := by decide +kernel
theorem dX4_drum_47 : decode cX4_drum 47 = .ok (.iaload, 1) := by decide +kernel
theorem dX4_drum_48 : decode cX4_drum 48 = .ok (.if_icmp .lt 7, 3) := by decide +kernel
theorem dX4_drum_51 : decode cX4_drum 51 = .ok (.iload_n 3, 1) := by decide +kernel
theorem dX4_drum_52 : decode cX4_drum 52 = .ok (.goto 4, 3) := by decide +kernel
theorem dX4_drum_55 : decode cX4_drum 55 = .ok (.iload_n 2, 1) := by decide +kernel
theorem dX4_drum_56 : decode cX4_drum 56 = .ok (.istore_n 2, 1) := by decide +kernel
theorem dX4_drum_57 : decode cX4_drum 57 = .ok (.iinc 3 1, 3) := by decide +kernel
theorem dX4_drum_60 : decode cX4_drum 60 = .ok (.goto (-40), 3) := by decide +kernel
theorem dX4_drum_63 : decode cX4_drum 63 = .ok (.aload_n 0, 1) := by decide +kernel
theorem dX4_drum_64 : decode cX4_drum 64 = .ok (.bipush (-9), 2) := by decide +kernel
theorem dX4_drum_66 : decode cX4_drum 66 = .ok (.putfield 45, 3) := by decide +kernel
theorem dX4_drum_69 : decode cX4_drum 69 = .ok (.iload_n 2, 1) := by decide +kernel
theorem dX4_drum_70 : decode cX4_drum 70 = .ok (.ireturn, 1) := by decide +kernel
theorem dX4_wants_0 : decode cX4_wants 0 = .ok (.aload_n 0, 1) := by decide +kernel
theorem dX4_wants_1 : decode cX4_wants 1 = .ok (.iload_n 1, 1) := by decide +kernel
theorem dX4_wants_2 : decode cX4_wants 2 = .ok (.invokevirtual 133, 3) := by decide +kernel
theorem dX4_wants_5 : decode cX4_wants 5 = .ok (.ifCond .ne 5, 3) := by decide +kernel
theorem dX4_wants_8 : decode cX4_wants 8 = .ok (.iconst (-1), 1) := by decide +kernel
theorem dX4_wants_9 : decode cX4_wants 9 = .ok (.ireturn, 1) := by decide +kernel
theorem dX4_wants_10 : decode cX4_wants 10 = .ok (.iconst 0, 1) := by decide +kernel
theorem dX4_wants_11 : decode cX4_wants 11 = .ok (.istore_n 2, 1) := by decide +kernel
theorem dX4_wants_12 : decode cX4_wants 12 = .ok (.aload_n 0, 1) := by decide +kernel
theorem dX4_wants_13 : decode cX4_wants 13 = .ok (.invokevirtual 158, 3) := by decide +kernel
theorem dX4_wants_16 : decode cX4_wants 16 = .ok (.istore_n 3, 1) := by decide +kernel
theorem dX4_wants_17 : decode cX4_wants 17 = .ok (.iconst 0, 1) := by decide +kernel
theorem dX4_wants_18 : decode cX4_wants 18 = .ok (.istore 4, 2) := by decide +kernel
theorem dX4_wants_20 : decode cX4_wants 20 = .ok (.iload 4, 2) := by decide +kernel
theorem dX4_wants_22 : decode cX4_wants 22 = .ok (.aload_n 0, 1) := by decide +kernel
theorem dX4_wants_23 : decode cX4_wants 23 = .ok (.getfield 13, 3) := by decide +kernel
theorem dX4_wants_26 : decode cX4_wants 26 = .ok (.iconst 2, 1) := by decide +kernel
theorem dX4_wants_27 : decode cX4_wants 27 = .ok (.iaload, 1) := by decide +kernel
theorem dX4_wants_28 : decode cX4_wants 28 = .ok (.if_icmp .ge 55, 3) := by decide +kernel
theorem dX4_wants_31 : decode cX4_wants 31 = .ok (.iload_n 2, 1) := by decide +kernel
theorem dX4_wants_32 : decode cX4_wants 32 = .ok (.aload_n 0, 1) := by decide +kernel
theorem dX4_wants_33 : decode cX4_wants 33 = .ok (.getfield 13, 3) := by decide +kernel
theorem dX4_wants_36 : decode cX4_wants 36 = .ok (.bipush 14, 2) := by decide +kernel
theorem dX4_wants_38 : decode cX4_wants 38 = .ok (.iload 4, 2) := by decide +kernel
theorem dX4_wants_40 : decode cX4_wants 40 = .ok (.iadd, 1) := by decide +kernel
theorem dX4_wants_41 : decode cX4_wants 41 = .ok (.iaload, 1) := by decide +kernel
theorem dX4_wants_42 : decode cX4_wants 42 = .ok (.iload_n 1, 1) := by decide +kernel
theorem dX4_wants_43 : decode cX4_wants 43 = .ok (.if_icmp .ne 31, 3) := by decide +kernel
theorem dX4_wants_46 : decode cX4_wants 46 = .ok (.aload_n 0, 1) := by decide +kernel
theorem dX4_wants_47 : decode cX4_wants 47 = .ok (.iload 4, 2) := by decide +kernel
theorem dX4_wants_49 : decode cX4_wants 49 = .ok (.iload_n 3, 1) := by decide +kernel
theorem dX4_wants_50 : decode cX4_wants 50 = .ok (.iload 4, 2) := by decide +kernel
theorem dX4_wants_52 : decode cX4_wants 52 = .ok (.ishr, 1) := by decide +kernel
theorem dX4_wants_53 : decode cX4_wants 53 = .ok (.iconst 1, 1) := by decide +kernel
theorem dX4_wants_54 : decode cX4_wants 54 = .ok (.iand, 1) := by decide +kernel
theorem dX4_wants_55 : decode cX4_wants 55 = .ok (.iconst 1, 1) := by decide +kernel
theorem dX4_wants_56 : decode cX4_wants 56 = .ok (.if_icmp .ne 7, 3) := by decide +kernel
theorem dX4_wants_59 : decode cX4_wants 59 = .ok (.iconst 1, 1) := by decide +kernel
theorem dX4_wants_60 : decode cX4_wants 60 = .ok (.goto 4, 3) := by decide +kernel
theorem dX4_wants_63 : decode cX4_wants 63 = .ok (.iconst 0, 1) := by decide +kernel
theorem dX4_wants_64 : decode cX4_wants 64 = .ok (.invokevirtual 148, 3) := by decide +kernel
theorem dX4_wants_67 : decode cX4_wants 67 = .ok (.ifCond .eq 7, 3) := by decide +kernel
theorem dX4_wants_70 : decode cX4_wants 70 = .ok (.iconst 1, 1) := by decide +kernel
theorem dX4_wants_71 : decode cX4_wants 71 = .ok (.goto 4, 3) := by decide +kernel
theorem dX4_wants_74 : decode cX4_wants 74 = .ok (.iconst 0, 1) := by decide +kernel
theorem dX4_wants_75 : decode cX4_wants 75 = .ok (.iadd, 1) := by decide +kernel
theorem dX4_wants_76 : decode cX4_wants 76 = .ok (.istore_n 2, 1) := by decide +kernel
theorem dX4_wants_77 : decode cX4_wants 77 = .ok (.iinc 4 1, 3) := by decide +kernel
theorem dX4_wants_80 : decode cX4_wants 80 = .ok (.goto (-60), 3) := by decide +kernel
theorem dX4_wants_83 : decode cX4_wants 83 = .ok (.iload_n 2, 1) := by decide +kernel
theorem dX4_wants_84 : decode cX4_wants 84 = .ok (.ireturn, 1) := by decide +kernel
theorem dX4_counted_0 : decode cX4_counted 0 = .ok (.iload_n 1, 1) := by decide +kernel
theorem dX4_counted_1 : decode cX4_counted 1 = .ok (.iconst 0, 1) := by decide +kernel
theorem dX4_counted_2 : decode cX4_counted 2 = .ok (.bipush 20, 2) := by decide +kernel
theorem dX4_counted_4 : decode cX4_counted 4 = .ok (.invokestatic 67, 3) := by decide +kernel
theorem dX4_counted_7 : decode cX4_counted 7 = .ok (.ifCond .eq 13, 3) := by decide +kernel
theorem dX4_counted_10 : decode cX4_counted 10 = .ok (.iload_n 2, 1) := by decide +kernel
theorem dX4_counted_11 : decode cX4_counted 11 = .ok (.iconst 0, 1) := by decide +kernel
theorem dX4_counted_12 : decode cX4_counted 12 = .ok (.bipush 6, 2) := by decide +kernel
theorem dX4_counted_14 : decode cX4_counted 14 = .ok (.invokestatic 67, 3) := by decide +kernel
theorem dX4_counted_17 : decode cX4_counted 17 = .ok (.ifCond .ne 5, 3) := by decide +kernel
theorem dX4_counted_20 : decode cX4_counted 20 = .ok (.iconst (-1), 1) := by decide +kernel
theorem dX4_counted_21 : decode cX4_counted 21 = .ok (.ireturn, 1) := by decide +kernel
theorem dX4_counted_22 : decode cX4_counted 22 = .ok (.aload_n 0, 1) := by decide +kernel
theorem dX4_counted_23 : decode cX4_counted 23 = .ok (.getfield 130, 3) := by decide +kernel
theorem dX4_counted_26 : decode cX4_counted 26 = .ok (.bipush 6, 2) := by decide +kernel
theorem dX4_counted_28 : decode cX4_counted 28 = .ok (.if_icmp .ne 6, 3) := by decide +kernel
theorem dX4_counted_31 : decode cX4_counted 31 = .ok (.bipush (-3), 2) := by decide +kernel
theorem dX4_counted_33 : decode cX4_counted 33 = .ok (.ireturn, 1) := by decide +kernel
theorem dX4_counted_34 : decode cX4_counted 34 = .ok (.aload_n 0, 1) := by decide +kernel
theorem dX4_counted_35 : decode cX4_counted 35 = .ok (.getfield 32, 3) := by decide +kernel
theorem dX4_counted_38 : decode cX4_counted 38 = .ok (.aload_n 0, 1) := by decide +kernel
theorem dX4_counted_39 : decode cX4_counted 39 = .ok (.getfield 130, 3) := by decide +kernel
theorem dX4_counted_42 : decode cX4_counted 42 = .ok (.bipush 8, 2) := by decide +kernel
theorem dX4_counted_44 : decode cX4_counted 44 = .ok (.iload_n 1, 1) := by decide +kernel
theorem dX4_counted_45 : decode cX4_counted 45 = .ok (.imul, 1) := by decide +kernel
theorem dX4_counted_46 : decode cX4_counted 46 = .ok (.iload_n 2, 1) := by decide +kernel
theorem dX4_counted_47 : decode cX4_counted 47 = .ok (.iadd, 1) := by decide +kernel
theorem dX4_counted_48 : decode cX4_counted 48 = .ok (.iastore, 1) := by decide +kernel
theorem dX4_counted_49 : decode cX4_counted 49 = .ok (.aload_n 0, 1) := by decide +kernel
theorem dX4_counted_50 : decode cX4_counted 50 = .ok (.dup, 1) := by decide +kernel
theorem dX4_counted_51 : decode cX4_counted 51 = .ok (.getfield 130, 3) := by decide +kernel
theorem dX4_counted_54 : decode cX4_counted 54 = .ok (.iconst 1, 1) := by decide +kernel
theorem dX4_counted_55 : decode cX4_counted 55 = .ok (.iadd, 1) := by decide +kernel
theorem dX4_counted_56 : decode cX4_counted 56 = .ok (.putfield 130, 3) := by decide +kernel
theorem dX4_counted_59 : decode cX4_counted 59 = .ok (.aload_n 0, 1) := by decide +kernel
theorem dX4_counted_60 : decode cX4_counted 60 = .ok (.getfield 130, 3) := by decide +kernel
theorem dX4_counted_63 : decode cX4_counted 63 = .ok (.ireturn, 1) := by decide +kernel
theorem dX4_forget_0 : decode cX4_forget 0 = .ok (.aload_n 0, 1) := by decide +kernel
theorem dX4_forget_1 : decode cX4_forget 1 = .ok (.getfield 130, 3) := by decide +kernel
theorem dX4_forget_4 : decode cX4_forget 4 = .ok (.istore_n 1, 1) := by decide +kernel
theorem dX4_forget_5 : decode cX4_forget 5 = .ok (.aload_n 0, 1) := by decide +kernel
theorem dX4_forget_6 : decode cX4_forget 6 = .ok (.iconst 0, 1) := by decide +kernel
theorem dX4_forget_7 : decode cX4_forget 7 = .ok (.putfield 130, 3) := by decide +kernel
theorem dX4_forget_10 : decode cX4_forget 10 = .ok (.iload_n 1, 1) := by decide +kernel
theorem dX4_forget_11 : decode cX4_forget 11 = .ok (.ireturn, 1) := by decide +kernel
theorem dX4_isSo_0 : decode cX4_isSo 0 = .ok (.iconst 0, 1) := by decide +kernel
theorem dX4_isSo_1 : decode cX4_isSo 1 = .ok (.istore_n 1, 1) := by decide +kernel
theorem dX4_isSo_2 : decode cX4_isSo 2 = .ok (.iload_n 1, 1) := by decide +kernel
theorem dX4_isSo_3 : decode cX4_isSo 3 = .ok (.bipush 6, 2) := by decide +kernel
theorem dX4_isSo_5 : decode cX4_isSo 5 = .ok (.if_icmp .ge 26, 3) := by decide +kernel
theorem dX4_isSo_8 : decode cX4_isSo 8 = .ok (.aload_n 0, 1) := by decide +kernel
theorem dX4_isSo_9 : decode cX4_isSo 9 = .ok (.getfield 19, 3) := by decide +kernel
theorem dX4_isSo_12 : decode cX4_isSo 12 = .ok (.iconst 3, 1) := by decide +kernel
theorem dX4_isSo_13 : decode cX4_isSo 13 = .ok (.iload_n 1, 1) := by decide +kernel
theorem dX4_isSo_14 : decode cX4_isSo 14 = .ok (.iadd, 1) := by decide +kernel
theorem dX4_isSo_15 : decode cX4_isSo 15 = .ok (.aload_n 0, 1) := by decide +kernel
theorem dX4_isSo_16 : decode cX4_isSo 16 = .ok (.getfield 13, 3) := by decide +kernel
theorem dX4_isSo_19 : decode cX4_isSo 19 = .ok (.bipush 20, 2) := by decide +kernel
theorem dX4_isSo_21 : decode cX4_isSo 21 = .ok (.iload_n 1, 1) := by decide +kernel
theorem dX4_isSo_22 : decode cX4_isSo 22 = .ok (.iadd, 1) := by decide +kernel
theorem dX4_isSo_23 : decode cX4_isSo 23 = .ok (.iaload, 1) := by decide +kernel
theorem dX4_isSo_24 : decode cX4_isSo 24 = .ok (.iastore, 1) := by decide +kernel
theorem dX4_isSo_25 : decode cX4_isSo 25 = .ok (.iinc 1 1, 3) := by decide +kernel
theorem dX4_isSo_28 : decode cX4_isSo 28 = .ok (.goto (-26), 3) := by decide +kernel
theorem dX4_isSo_31 : decode cX4_isSo 31 = .ok (.aload_n 0, 1) := by decide +kernel
theorem dX4_isSo_32 : decode cX4_isSo 32 = .ok (.getfield 19, 3) := by decide +kernel
theorem dX4_isSo_35 : decode cX4_isSo 35 = .ok (.iconst 1, 1) := by decide +kernel
theorem dX4_isSo_36 : decode cX4_isSo 36 = .ok (.iconst 0, 1) := by decide +kernel
theorem dX4_isSo_37 : decode cX4_isSo 37 = .ok (.iastore, 1) := by decide +kernel
theorem dX4_isSo_38 : decode cX4_isSo 38 = .ok (.iconst 1, 1) := by decide +kernel
theorem dX4_isSo_39 : decode cX4_isSo 39 = .ok (.istore_n 1, 1) := by decide +kernel
theorem dX4_isSo_40 : decode cX4_isSo 40 = .ok (.iconst 0, 1) := by decide +kernel
theorem dX4_isSo_41 : decode cX4_isSo 41 = .ok (.istore_n 2, 1) := by decide +kernel
theorem dX4_isSo_42 : decode cX4_isSo 42 = .ok (.iload_n 2, 1) := by decide +kernel
theorem dX4_isSo_43 : decode cX4_isSo 43 = .ok (.bipush 21, 2) := by decide +kernel
theorem dX4_isSo_45 : decode cX4_isSo 45 = .ok (.if_icmp .ge 83, 3) := by decide +kernel
theorem dX4_isSo_48 : decode cX4_isSo 48 = .ok (.aload_n 0, 1) := by decide +kernel
theorem dX4_isSo_49 : decode cX4_isSo 49 = .ok (.aload_n 0, 1) := by decide +kernel
theorem dX4_isSo_50 : decode cX4_isSo 50 = .ok (.invokevirtual 158, 3) := by decide +kernel
theorem dX4_isSo_53 : decode cX4_isSo 53 = .ok (.invokevirtual 162, 3) := by decide +kernel
theorem dX4_isSo_56 : decode cX4_isSo 56 = .ok (.istore_n 3, 1) := by decide +kernel
theorem dX4_isSo_57 : decode cX4_isSo 57 = .ok (.iconst 0, 1) := by decide +kernel
theorem dX4_isSo_58 : decode cX4_isSo 58 = .ok (.istore 4, 2) := by decide +kernel
theorem dX4_isSo_60 : decode cX4_isSo 60 = .ok (.iload 4, 2) := by decide +kernel
theorem dX4_isSo_62 : decode cX4_isSo 62 = .ok (.aload_n 0, 1) := by decide +kernel
theorem dX4_isSo_63 : decode cX4_isSo 63 = .ok (.getfield 130, 3) := by decide +kernel
theorem dX4_isSo_66 : decode cX4_isSo 66 = .ok (.if_icmp .ge 50, 3) := by decide +kernel
theorem dX4_isSo_69 : decode cX4_isSo 69 = .ok (.iload_n 1, 1) := by decide +kernel
theorem dX4_isSo_70 : decode cX4_isSo 70 = .ok (.ifCond .eq 38, 3) := by decide +kernel
theorem dX4_isSo_73 : decode cX4_isSo 73 = .ok (.aload_n 0, 1) := by decide +kernel
theorem dX4_isSo_74 : decode cX4_isSo 74 = .ok (.getfield 32, 3) := by decide +kernel
theorem dX4_isSo_77 : decode cX4_isSo 77 = .ok (.iload 4, 2) := by decide +kernel
theorem dX4_isSo_79 : decode cX4_isSo 79 = .ok (.iaload, 1) := by decide +kernel
theorem dX4_isSo_80 : decode cX4_isSo 80 = .ok (.bipush 8, 2) := by decide +kernel
theorem dX4_isSo_82 : decode cX4_isSo 82 = .ok (.idiv, 1) := by decide +kernel
theorem dX4_isSo_83 : decode cX4_isSo 83 = .ok (.iload_n 2, 1) := by decide +kernel
theorem dX4_isSo_84 : decode cX4_isSo 84 = .ok (.if_icmp .ne 20, 3) := by decide +kernel
theorem dX4_isSo_87 : decode cX4_isSo 87 = .ok (.aload_n 0, 1) := by decide +kernel
theorem dX4_isSo_88 : decode cX4_isSo 88 = .ok (.getfield 32, 3) := by decide +kernel
theorem dX4_isSo_91 : decode cX4_isSo 91 = .ok (.iload 4, 2) := by decide +kernel
theorem dX4_isSo_93 : decode cX4_isSo 93 = .ok (.iaload, 1) := by decide +kernel
theorem dX4_isSo_94 : decode cX4_isSo 94 = .ok (.bipush 8, 2) := by decide +kernel
theorem dX4_isSo_96 : decode cX4_isSo 96 = .ok (.irem, 1) := by decide +kernel
theorem dX4_isSo_97 : decode cX4_isSo 97 = .ok (.iload_n 3, 1) := by decide +kernel
theorem dX4_isSo_98 : decode cX4_isSo 98 = .ok (.invokestatic 155, 3) := by decide +kernel
theorem dX4_isSo_101 : decode cX4_isSo 101 = .ok (.if_icmp .ne 7, 3) := by decide +kernel
theorem dX4_isSo_104 : decode cX4_isSo 104 = .ok (.iconst 1, 1) := by decide +kernel
theorem dX4_isSo_105 : decode cX4_isSo 105 = .ok (.goto 4, 3) := by decide +kernel
theorem dX4_isSo_108 : decode cX4_isSo 108 = .ok (.iconst 0, 1) := by decide +kernel
theorem dX4_isSo_109 : decode cX4_isSo 109 = .ok (.istore_n 1, 1) := by decide +kernel
theorem dX4_isSo_110 : decode cX4_isSo 110 = .ok (.iinc 4 1, 3) := by decide +kernel
theorem dX4_isSo_113 : decode cX4_isSo 113 = .ok (.goto (-53), 3) := by decide +kernel
theorem dX4_isSo_116 : decode cX4_isSo 116 = .ok (.aload_n 0, 1) := by decide +kernel
theorem dX4_isSo_117 : decode cX4_isSo 117 = .ok (.iload_n 3, 1) := by decide +kernel
theorem dX4_isSo_118 : decode cX4_isSo 118 = .ok (.invokevirtual 165, 3) := by decide +kernel
theorem dX4_isSo_121 : decode cX4_isSo 121 = .ok (.pop, 1) := by decide +kernel
theorem dX4_isSo_122 : decode cX4_isSo 122 = .ok (.iinc 2 1, 3) := by decide +kernel
theorem dX4_isSo_125 : decode cX4_isSo 125 = .ok (.goto (-83), 3) := by decide +kernel
theorem dX4_isSo_128 : decode cX4_isSo 128 = .ok (.iload_n 1, 1) := by decide +kernel
theorem dX4_isSo_129 : decode cX4_isSo 129 = .ok (.ireturn, 1) := by decide +kernel
theorem dX4_sham_0 : decode cX4_sham 0 = .ok (.aload_n 0, 1) := by decide +kernel
theorem dX4_sham_1 : decode cX4_sham 1 = .ok (.invokevirtual 168, 3) := by decide +kernel
theorem dX4_sham_4 : decode cX4_sham 4 = .ok (.iconst 0, 1) := by decide +kernel
theorem dX4_sham_5 : decode cX4_sham 5 = .ok (.istore_n 1, 1) := by decide +kernel
theorem dX4_sham_6 : decode cX4_sham 6 = .ok (.iconst 0, 1) := by decide +kernel
theorem dX4_sham_7 : decode cX4_sham 7 = .ok (.istore_n 2, 1) := by decide +kernel
theorem dX4_sham_8 : decode cX4_sham 8 = .ok (.iload_n 2, 1) := by decide +kernel
theorem dX4_sham_9 : decode cX4_sham 9 = .ok (.aload_n 0, 1) := by decide +kernel
theorem dX4_sham_10 : decode cX4_sham 10 = .ok (.getfield 13, 3) := by decide +kernel
theorem dX4_sham_13 : decode cX4_sham 13 = .ok (.iconst 2, 1) := by decide +kernel
theorem dX4_sham_14 : decode cX4_sham 14 = .ok (.iaload, 1) := by decide +kernel
theorem dX4_sham_15 : decode cX4_sham 15 = .ok (.if_icmp .ge 35, 3) := by decide +kernel
theorem dX4_sham_18 : decode cX4_sham 18 = .ok (.aload_n 0, 1) := by decide +kernel
theorem dX4_sham_19 : decode cX4_sham 19 = .ok (.iload_n 2, 1) := by decide +kernel
theorem dX4_sham_20 : decode cX4_sham 20 = .ok (.putfield 42, 3) := by decide +kernel
theorem dX4_sham_23 : decode cX4_sham 23 = .ok (.iload_n 1, 1) := by decide +kernel
theorem dX4_sham_24 : decode cX4_sham 24 = .ok (.aload_n 0, 1) := by decide +kernel
theorem dX4_sham_25 : decode cX4_sham 25 = .ok (.invokevirtual 194, 3) := by decide +kernel
theorem dX4_sham_28 : decode cX4_sham 28 = .ok (.ifCond .eq 9, 3) := by decide +kernel
theorem dX4_sham_31 : decode cX4_sham 31 = .ok (.iconst 1, 1) := by decide +kernel
theorem dX4_sham_32 : decode cX4_sham 32 = .ok (.iload_n 2, 1) := by decide +kernel
theorem dX4_sham_33 : decode cX4_sham 33 = .ok (.ishl, 1) := by decide +kernel
theorem dX4_sham_34 : decode cX4_sham 34 = .ok (.goto 4, 3) := by decide +kernel
theorem dX4_sham_37 : decode cX4_sham 37 = .ok (.iconst 0, 1) := by decide +kernel
theorem dX4_sham_38 : decode cX4_sham 38 = .ok (.ior, 1) := by decide +kernel
theorem dX4_sham_39 : decode cX4_sham 39 = .ok (.istore_n 1, 1) := by decide +kernel
theorem dX4_sham_40 : decode cX4_sham 40 = .ok (.aload_n 0, 1) := by decide +kernel
theorem dX4_sham_41 : decode cX4_sham 41 = .ok (.invokevirtual 171, 3) := by decide +kernel
theorem dX4_sham_44 : decode cX4_sham 44 = .ok (.iinc 2 1, 3) := by decide +kernel
theorem dX4_sham_47 : decode cX4_sham 47 = .ok (.goto (-39), 3) := by decide +kernel
theorem dX4_sham_50 : decode cX4_sham 50 = .ok (.aload_n 0, 1) := by decide +kernel
theorem dX4_sham_51 : decode cX4_sham 51 = .ok (.bipush (-9), 2) := by decide +kernel
theorem dX4_sham_53 : decode cX4_sham 53 = .ok (.putfield 42, 3) := by decide +kernel
theorem dX4_sham_56 : decode cX4_sham 56 = .ok (.iload_n 1, 1) := by decide +kernel
theorem dX4_sham_57 : decode cX4_sham 57 = .ok (.ireturn, 1) := by decide +kernel
theorem dX4_odds_0 : decode cX4_odds 0 = .ok (.iload_n 1, 1) := by decide +kernel
theorem dX4_odds_1 : decode cX4_odds 1 = .ok (.iconst 0, 1) := by decide +kernel
theorem dX4_odds_2 : decode cX4_odds 2 = .ok (.bipush 10, 2) := by decide +kernel
theorem dX4_odds_4 : decode cX4_odds 4 = .ok (.invokestatic 67, 3) := by decide +kernel
theorem dX4_odds_7 : decode cX4_odds 7 = .ok (.ifCond .eq 12, 3) := by decide +kernel
theorem dX4_odds_10 : decode cX4_odds 10 = .ok (.iload_n 2, 1) := by decide +kernel
theorem dX4_odds_11 : decode cX4_odds 11 = .ok (.iconst 0, 1) := by decide +kernel
theorem dX4_odds_12 : decode cX4_odds 12 = .ok (.iconst 1, 1) := by decide +kernel
theorem dX4_odds_13 : decode cX4_odds 13 = .ok (.invokestatic 67, 3) := by decide +kernel
theorem dX4_odds_16 : decode cX4_odds 16 = .ok (.ifCond .ne 5, 3) := by decide +kernel
theorem dX4_odds_19 : decode cX4_odds 19 = .ok (.iconst (-1), 1) := by decide +kernel
theorem dX4_odds_20 : decode cX4_odds 20 = .ok (.ireturn, 1) := by decide +kernel
theorem dX4_odds_21 : decode cX4_odds 21 = .ok (.iconst 0, 1) := by decide +kernel
theorem dX4_odds_22 : decode cX4_odds 22 = .ok (.istore_n 3, 1) := by decide +kernel
theorem dX4_odds_23 : decode cX4_odds 23 = .ok (.iconst 0, 1) := by decide +kernel
theorem dX4_odds_24 : decode cX4_odds 24 = .ok (.istore 4, 2) := by decide +kernel
theorem dX4_odds_26 : decode cX4_odds 26 = .ok (.iload 4, 2) := by decide +kernel
theorem dX4_odds_28 : decode cX4_odds 28 = .ok (.aload_n 0, 1) := by decide +kernel
theorem dX4_odds_29 : decode cX4_odds 29 = .ok (.getfield 13, 3) := by decide +kernel
theorem dX4_odds_32 : decode cX4_odds 32 = .ok (.iconst 3, 1) := by decide +kernel
theorem dX4_odds_33 : decode cX4_odds 33 = .ok (.iaload, 1) := by decide +kernel
theorem dX4_odds_34 : decode cX4_odds 34 = .ok (.if_icmp .ge 39, 3) := by decide +kernel
theorem dX4_odds_37 : decode cX4_odds 37 = .ok (.iload_n 3, 1) := by decide +kernel
theorem dX4_odds_38 : decode cX4_odds 38 = .ok (.aload_n 0, 1) := by decide +kernel
theorem dX4_odds_39 : decode cX4_odds 39 = .ok (.getfield 13, 3) := by decide +kernel
theorem dX4_odds_42 : decode cX4_odds 42 = .ok (.bipush 44, 2) := by decide +kernel
theorem dX4_odds_44 : decode cX4_odds 44 = .ok (.iload 4, 2) := by decide +kernel
theorem dX4_odds_46 : decode cX4_odds 46 = .ok (.iadd, 1) := by decide +kernel
theorem dX4_odds_47 : decode cX4_odds 47 = .ok (.iaload, 1) := by decide +kernel
theorem dX4_odds_48 : decode cX4_odds 48 = .ok (.aload_n 0, 1) := by decide +kernel
theorem dX4_odds_49 : decode cX4_odds 49 = .ok (.getfield 19, 3) := by decide +kernel
theorem dX4_odds_52 : decode cX4_odds 52 = .ok (.iconst 1, 1) := by decide +kernel
theorem dX4_odds_53 : decode cX4_odds 53 = .ok (.iaload, 1) := by decide +kernel
theorem dX4_odds_54 : decode cX4_odds 54 = .ok (.if_icmp .ne 10, 3) := by decide +kernel
theorem dX4_odds_57 : decode cX4_odds 57 = .ok (.iconst 1, 1) := by decide +kernel
theorem dX4_odds_58 : decode cX4_odds 58 = .ok (.iload 4, 2) := by decide +kernel
theorem dX4_odds_60 : decode cX4_odds 60 = .ok (.ishl, 1) := by decide +kernel
theorem dX4_odds_61 : decode cX4_odds 61 = .ok (.goto 4, 3) := by decide +kernel
theorem dX4_odds_64 : decode cX4_odds 64 = .ok (.iconst 0, 1) := by decide +kernel
theorem dX4_odds_65 : decode cX4_odds 65 = .ok (.ior, 1) := by decide +kernel
theorem dX4_odds_66 : decode cX4_odds 66 = .ok (.istore_n 3, 1) := by decide +kernel
theorem dX4_odds_67 : decode cX4_odds 67 = .ok (.iinc 4 1, 3) := by decide +kernel
theorem dX4_odds_70 : decode cX4_odds 70 = .ok (.goto (-44), 3) := by decide +kernel
theorem dX4_odds_73 : decode cX4_odds 73 = .ok (.iconst 0, 1) := by decide +kernel
theorem dX4_odds_74 : decode cX4_odds 74 = .ok (.istore 4, 2) := by decide +kernel
theorem dX4_odds_76 : decode cX4_odds 76 = .ok (.iconst 1, 1) := by decide +kernel
theorem dX4_odds_77 : decode cX4_odds 77 = .ok (.istore 5, 2) := by decide +kernel
theorem dX4_odds_79 : decode cX4_odds 79 = .ok (.iconst 0, 1) := by decide +kernel
theorem dX4_odds_80 : decode cX4_odds 80 = .ok (.istore 6, 2) := by decide +kernel
theorem dX4_odds_82 : decode cX4_odds 82 = .ok (.iload 6, 2) := by decide +kernel
theorem dX4_odds_84 : decode cX4_odds 84 = .ok (.iload_n 3, 1) := by decide +kernel
theorem dX4_odds_85 : decode cX4_odds 85 = .ok (.invokestatic 155, 3) := by decide +kernel
theorem dX4_odds_88 : decode cX4_odds 88 = .ok (.if_icmp .ge 16, 3) := by decide +kernel
theorem dX4_odds_91 : decode cX4_odds 91 = .ok (.iload 5, 2) := by decide +kernel
theorem dX4_odds_93 : decode cX4_odds 93 = .ok (.bipush 10, 2) := by decide +kernel
theorem dX4_odds_95 : decode cX4_odds 95 = .ok (.imul, 1) := by decide +kernel
theorem dX4_odds_96 : decode cX4_odds 96 = .ok (.istore 5, 2) := by decide +kernel
theorem dX4_odds_98 : decode cX4_odds 98 = .ok (.iinc 6 1, 3) := by decide +kernel
theorem dX4_odds_101 : decode cX4_odds 101 = .ok (.goto (-19), 3) := by decide +kernel
theorem dX4_odds_104 : decode cX4_odds 104 = .ok (.iconst 0, 1) := by decide +kernel
theorem dX4_odds_105 : decode cX4_odds 105 = .ok (.istore 6, 2) := by decide +kernel
theorem dX4_odds_107 : decode cX4_odds 107 = .ok (.iload 6, 2) := by decide +kernel
theorem dX4_odds_109 : decode cX4_odds 109 = .ok (.bipush 64, 2) := by decide +kernel
theorem dX4_odds_111 : decode cX4_odds 111 = .ok (.if_icmp .ge 111, 3) := by decide +kernel
theorem dX4_odds_114 : decode cX4_odds 114 = .ok (.iload 6, 2) := by decide +kernel
theorem dX4_odds_116 : decode cX4_odds 116 = .ok (.iload_n 3, 1) := by decide +kernel
theorem dX4_odds_117 : decode cX4_odds 117 = .ok (.iconst (-1), 1) := by decide +kernel
theorem dX4_odds_118 : decode cX4_odds 118 = .ok (.ixor, 1) := by decide +kernel
theorem dX4_odds_119 : decode cX4_odds 119 = .ok (.iand, 1) := by decide +kernel
theorem dX4_odds_120 : decode cX4_odds 120 = .ok (.ifCond .ne 96, 3) := by decide +kernel
theorem dX4_odds_123 : decode cX4_odds 123 = .ok (.iconst 1, 1) := by decide +kernel
theorem dX4_odds_124 : decode cX4_odds 124 = .ok (.istore 7, 2) := by decide +kernel
theorem dX4_odds_126 : decode cX4_odds 126 = .ok (.iconst 0, 1) := by decide +kernel
theorem dX4_odds_127 : decode cX4_odds 127 = .ok (.istore 8, 2) := by decide +kernel
theorem dX4_odds_129 : decode cX4_odds 129 = .ok (.iload 8, 2) := by decide +kernel
theorem dX4_odds_131 : decode cX4_odds 131 = .ok (.bipush 6, 2) := by decide +kernel
theorem dX4_odds_133 : decode cX4_odds 133 = .ok (.if_icmp .ge 46, 3) := by decide +kernel
theorem dX4_odds_136 : decode cX4_odds 136 = .ok (.iload 7, 2) := by decide +kernel
theorem dX4_odds_138 : decode cX4_odds 138 = .ok (.iload_n 3, 1) := by decide +kernel
theorem dX4_odds_139 : decode cX4_odds 139 = .ok (.iload 8, 2) := by decide +kernel
theorem dX4_odds_141 : decode cX4_odds 141 = .ok (.ishr, 1) := by decide +kernel
theorem dX4_odds_142 : decode cX4_odds 142 = .ok (.iconst 1, 1) := by decide +kernel
theorem dX4_odds_143 : decode cX4_odds 143 = .ok (.iand, 1) := by decide +kernel
theorem dX4_odds_144 : decode cX4_odds 144 = .ok (.ifCond .ne 7, 3) := by decide +kernel
theorem dX4_odds_147 : decode cX4_odds 147 = .ok (.iconst 1, 1) := by decide +kernel
theorem dX4_odds_148 : decode cX4_odds 148 = .ok (.goto 22, 3) := by decide +kernel
theorem dX4_odds_151 : decode cX4_odds 151 = .ok (.iload 6, 2) := by decide +kernel
theorem dX4_odds_153 : decode cX4_odds 153 = .ok (.iload 8, 2) := by decide +kernel
theorem dX4_odds_155 : decode cX4_odds 155 = .ok (.ishr, 1) := by decide +kernel
theorem dX4_odds_156 : decode cX4_odds 156 = .ok (.iconst 1, 1) := by decide +kernel
theorem dX4_odds_157 : decode cX4_odds 157 = .ok (.iand, 1) := by decide +kernel
theorem dX4_odds_158 : decode cX4_odds 158 = .ok (.iconst 1, 1) := by decide +kernel
theorem dX4_odds_159 : decode cX4_odds 159 = .ok (.if_icmp .ne 7, 3) := by decide +kernel
theorem dX4_odds_162 : decode cX4_odds 162 = .ok (.iload_n 1, 1) := by decide +kernel
theorem dX4_odds_163 : decode cX4_odds 163 = .ok (.goto 7, 3) := by decide +kernel
theorem dX4_odds_166 : decode cX4_odds 166 = .ok (.bipush 10, 2) := by decide +kernel
theorem dX4_odds_168 : decode cX4_odds 168 = .ok (.iload_n 1, 1) := by decide +kernel
theorem dX4_odds_169 : decode cX4_odds 169 = .ok (.isub, 1) := by decide +kernel
theorem dX4_odds_170 : decode cX4_odds 170 = .ok (.imul, 1) := by decide +kernel
theorem dX4_odds_171 : decode cX4_odds 171 = .ok (.istore 7, 2) := by decide +kernel
theorem dX4_odds_173 : decode cX4_odds 173 = .ok (.iinc 8 1, 3) := by decide +kernel
theorem dX4_odds_176 : decode cX4_odds 176 = .ok (.goto (-47), 3) := by decide +kernel
theorem dX4_odds_179 : decode cX4_odds 179 = .ok (.aload_n 0, 1) := by decide +kernel
theorem dX4_odds_180 : decode cX4_odds 180 = .ok (.iload 6, 2) := by decide +kernel
theorem dX4_odds_182 : decode cX4_odds 182 = .ok (.putfield 35, 3) := by decide +kernel
theorem dX4_odds_185 : decode cX4_odds 185 = .ok (.iload 4, 2) := by decide +kernel
theorem dX4_odds_187 : decode cX4_odds 187 = .ok (.aload_n 0, 1) := by decide +kernel
theorem dX4_odds_188 : decode cX4_odds 188 = .ok (.aload_n 0, 1) := by decide +kernel
theorem dX4_odds_189 : decode cX4_odds 189 = .ok (.invokevirtual 158, 3) := by decide +kernel
theorem dX4_odds_192 : decode cX4_odds 192 = .ok (.invokevirtual 162, 3) := by decide +kernel
theorem dX4_odds_195 : decode cX4_odds 195 = .ok (.invokestatic 155, 3) := by decide +kernel
theorem dX4_odds_198 : decode cX4_odds 198 = .ok (.aload_n 0, 1) := by decide +kernel
theorem dX4_odds_199 : decode cX4_odds 199 = .ok (.getfield 13, 3) := by decide +kernel
theorem dX4_odds_202 : decode cX4_odds 202 = .ok (.iconst 1, 1) := by decide +kernel
theorem dX4_odds_203 : decode cX4_odds 203 = .ok (.iaload, 1) := by decide +kernel
theorem dX4_odds_204 : decode cX4_odds 204 = .ok (.if_icmp .lt 8, 3) := by decide +kernel
theorem dX4_odds_207 : decode cX4_odds 207 = .ok (.iload 7, 2) := by decide +kernel
theorem dX4_odds_209 : decode cX4_odds 209 = .ok (.goto 4, 3) := by decide +kernel
theorem dX4_odds_212 : decode cX4_odds 212 = .ok (.iconst 0, 1) := by decide +kernel
theorem dX4_odds_213 : decode cX4_odds 213 = .ok (.iadd, 1) := by decide +kernel
theorem dX4_odds_214 : decode cX4_odds 214 = .ok (.istore 4, 2) := by decide +kernel
theorem dX4_odds_216 : decode cX4_odds 216 = .ok (.iinc 6 1, 3) := by decide +kernel
theorem dX4_odds_219 : decode cX4_odds 219 = .ok (.goto (-112), 3) := by decide +kernel
theorem dX4_odds_222 : decode cX4_odds 222 = .ok (.aload_n 0, 1) := by decide +kernel
theorem dX4_odds_223 : decode cX4_odds 223 = .ok (.bipush 63, 2) := by decide +kernel
theorem dX4_odds_225 : decode cX4_odds 225 = .ok (.putfield 35, 3) := by decide +kernel
theorem dX4_odds_228 : decode cX4_odds 228 = .ok (.iload 4, 2) := by decide +kernel
theorem dX4_odds_230 : decode cX4_odds 230 = .ok (.istore 6, 2) := by decide +kernel
theorem dX4_odds_232 : decode cX4_odds 232 = .ok (.iload 5, 2) := by decide +kernel
theorem dX4_odds_234 : decode cX4_odds 234 = .ok (.istore 7, 2) := by decide +kernel
theorem dX4_odds_236 : decode cX4_odds 236 = .ok (.iload 7, 2) := by decide +kernel
theorem dX4_odds_238 : decode cX4_odds 238 = .ok (.ifCond .le 21, 3) := by decide +kernel
theorem dX4_odds_241 : decode cX4_odds 241 = .ok (.iload 6, 2) := by decide +kernel
theorem dX4_odds_243 : decode cX4_odds 243 = .ok (.iload 7, 2) := by decide +kernel
theorem dX4_odds_245 : decode cX4_odds 245 = .ok (.irem, 1) := by decide +kernel
theorem dX4_odds_246 : decode cX4_odds 246 = .ok (.istore 8, 2) := by decide +kernel
theorem dX4_odds_248 : decode cX4_odds 248 = .ok (.iload 7, 2) := by decide +kernel
theorem dX4_odds_250 : decode cX4_odds 250 = .ok (.istore 6, 2) := by decide +kernel
theorem dX4_odds_252 : decode cX4_odds 252 = .ok (.iload 8, 2) := by decide +kernel
theorem dX4_odds_254 : decode cX4_odds 254 = .ok (.istore 7, 2) := by decide +kernel
theorem dX4_odds_256 : decode cX4_odds 256 = .ok (.goto (-20), 3) := by decide +kernel
theorem dX4_odds_259 : decode cX4_odds 259 = .ok (.iload_n 2, 1) := by decide +kernel
theorem dX4_odds_260 : decode cX4_odds 260 = .ok (.ifCond .ne 11, 3) := by decide +kernel
theorem dX4_odds_263 : decode cX4_odds 263 = .ok (.iload 4, 2) := by decide +kernel
theorem dX4_odds_265 : decode cX4_odds 265 = .ok (.iload 6, 2) := by decide +kernel
theorem dX4_odds_267 : decode cX4_odds 267 = .ok (.idiv, 1) := by decide +kernel
theorem dX4_odds_268 : decode cX4_odds 268 = .ok (.goto 8, 3) := by decide +kernel
theorem dX4_odds_271 : decode cX4_odds 271 = .ok (.iload 5, 2) := by decide +kernel
theorem dX4_odds_273 : decode cX4_odds 273 = .ok (.iload 6, 2) := by decide +kernel
theorem dX4_odds_275 : decode cX4_odds 275 = .ok (.idiv, 1) := by decide +kernel
theorem dX4_odds_276 : decode cX4_odds 276 = .ok (.ireturn, 1) := by decide +kernel
theorem dX4_rate_0 : decode cX4_rate 0 = .ok (.iload_n 1, 1) := by decide +kernel
theorem dX4_rate_1 : decode cX4_rate 1 = .ok (.iconst 0, 1) := by decide +kernel
theorem dX4_rate_2 : decode cX4_rate 2 = .ok (.iconst 5, 1) := by decide +kernel
theorem dX4_rate_3 : decode cX4_rate 3 = .ok (.invokestatic 67, 3) := by decide +kernel
theorem dX4_rate_6 : decode cX4_rate 6 = .ok (.ifCond .eq 11, 3) := by decide +kernel
theorem dX4_rate_9 : decode cX4_rate 9 = .ok (.aload_n 0, 1) := by decide +kernel
theorem dX4_rate_10 : decode cX4_rate 10 = .ok (.iload_n 2, 1) := by decide +kernel
theorem dX4_rate_11 : decode cX4_rate 11 = .ok (.invokevirtual 136, 3) := by decide +kernel
theorem dX4_rate_14 : decode cX4_rate 14 = .ok (.ifCond .ne 6, 3) := by decide +kernel
theorem dX4_rate_17 : decode cX4_rate 17 = .ok (.ldc 197, 2) := by decide +kernel
theorem dX4_rate_19 : decode cX4_rate 19 = .ok (.ireturn, 1) := by decide +kernel
theorem dX4_rate_20 : decode cX4_rate 20 = .ok (.aload_n 0, 1) := by decide +kernel
theorem dX4_rate_21 : decode cX4_rate 21 = .ok (.dup, 1) := by decide +kernel
theorem dX4_rate_22 : decode cX4_rate 22 = .ok (.getfield 198, 3) := by decide +kernel
theorem dX4_rate_25 : decode cX4_rate 25 = .ok (.iload_n 1, 1) := by decide +kernel
theorem dX4_rate_26 : decode cX4_rate 26 = .ok (.ifCond .ne 7, 3) := by decide +kernel
theorem dX4_rate_29 : decode cX4_rate 29 = .ok (.lconst 1, 1) := by decide +kernel
theorem dX4_rate_30 : decode cX4_rate 30 = .ok (.goto 50, 3) := by decide +kernel
theorem dX4_rate_33 : decode cX4_rate 33 = .ok (.iload_n 1, 1) := by decide +kernel
theorem dX4_rate_34 : decode cX4_rate 34 = .ok (.iconst 1, 1) := by decide +kernel
theorem dX4_rate_35 : decode cX4_rate 35 = .ok (.if_icmp .ne 9, 3) := by decide +kernel
theorem dX4_rate_38 : decode cX4_rate 38 = .ok (.ldc2_w 202, 3) := by decide +kernel
theorem dX4_rate_41 : decode cX4_rate 41 = .ok (.goto 39, 3) := by decide +kernel
theorem dX4_rate_44 : decode cX4_rate 44 = .ok (.iload_n 1, 1) := by decide +kernel
theorem dX4_rate_45 : decode cX4_rate 45 = .ok (.iconst 2, 1) := by decide +kernel
theorem dX4_rate_46 : decode cX4_rate 46 = .ok (.if_icmp .ne 9, 3) := by decide +kernel
theorem dX4_rate_49 : decode cX4_rate 49 = .ok (.ldc2_w 204, 3) := by decide +kernel
theorem dX4_rate_52 : decode cX4_rate 52 = .ok (.goto 28, 3) := by decide +kernel
theorem dX4_rate_55 : decode cX4_rate 55 = .ok (.iload_n 1, 1) := by decide +kernel
theorem dX4_rate_56 : decode cX4_rate 56 = .ok (.iconst 3, 1) := by decide +kernel
theorem dX4_rate_57 : decode cX4_rate 57 = .ok (.if_icmp .ne 9, 3) := by decide +kernel
theorem dX4_rate_60 : decode cX4_rate 60 = .ok (.ldc2_w 206, 3) := by decide +kernel
theorem dX4_rate_63 : decode cX4_rate 63 = .ok (.goto 17, 3) := by decide +kernel
theorem dX4_rate_66 : decode cX4_rate 66 = .ok (.iload_n 1, 1) := by decide +kernel
theorem dX4_rate_67 : decode cX4_rate 67 = .ok (.iconst 4, 1) := by decide +kernel
theorem dX4_rate_68 : decode cX4_rate 68 = .ok (.if_icmp .ne 9, 3) := by decide +kernel
theorem dX4_rate_71 : decode cX4_rate 71 = .ok (.ldc2_w 208, 3) := by decide +kernel
theorem dX4_rate_74 : decode cX4_rate 74 = .ok (.goto 6, 3) := by decide +kernel
theorem dX4_rate_77 : decode cX4_rate 77 = .ok (.ldc2_w 210, 3) := by decide +kernel
theorem dX4_rate_80 : decode cX4_rate 80 = .ok (.ladd, 1) := by decide +kernel
theorem dX4_rate_81 : decode cX4_rate 81 = .ok (.putfield 198, 3) := by decide +kernel
theorem dX4_rate_84 : decode cX4_rate 84 = .ok (.aload_n 0, 1) := by decide +kernel
theorem dX4_rate_85 : decode cX4_rate 85 = .ok (.getfield 19, 3) := by decide +kernel
theorem dX4_rate_88 : decode cX4_rate 88 = .ok (.iconst 3, 1) := by decide +kernel
theorem dX4_rate_89 : decode cX4_rate 89 = .ok (.iload_n 2, 1) := by decide +kernel
theorem dX4_rate_90 : decode cX4_rate 90 = .ok (.iadd, 1) := by decide +kernel
theorem dX4_rate_91 : decode cX4_rate 91 = .ok (.iaload, 1) := by decide +kernel
theorem dX4_rate_92 : decode cX4_rate 92 = .ok (.istore_n 3, 1) := by decide +kernel
theorem dX4_rate_93 : decode cX4_rate 93 = .ok (.iload_n 3, 1) := by decide +kernel
theorem dX4_rate_94 : decode cX4_rate 94 = .ok (.aload_n 0, 1) := by decide +kernel
theorem dX4_rate_95 : decode cX4_rate 95 = .ok (.getfield 13, 3) := by decide +kernel
theorem dX4_rate_98 : decode cX4_rate 98 = .ok (.bipush 26, 2) := by decide +kernel
theorem dX4_rate_100 : decode cX4_rate 100 = .ok (.iload_n 2, 1) := by decide +kernel
theorem dX4_rate_101 : decode cX4_rate 101 = .ok (.iadd, 1) := by decide +kernel
theorem dX4_rate_102 : decode cX4_rate 102 = .ok (.iaload, 1) := by decide +kernel
theorem dX4_rate_103 : decode cX4_rate 103 = .ok (.invokestatic 155, 3) := by decide +kernel
theorem dX4_rate_106 : decode cX4_rate 106 = .ok (.iadd, 1) := by decide +kernel
theorem dX4_rate_107 : decode cX4_rate 107 = .ok (.istore 4, 2) := by decide +kernel
theorem dX4_rate_109 : decode cX4_rate 109 = .ok (.iload_n 3, 1) := by decide +kernel
theorem dX4_rate_110 : decode cX4_rate 110 = .ok (.aload_n 0, 1) := by decide +kernel
theorem dX4_rate_111 : decode cX4_rate 111 = .ok (.getfield 13, 3) := by decide +kernel
theorem dX4_rate_114 : decode cX4_rate 114 = .ok (.bipush 32, 2) := by decide +kernel
theorem dX4_rate_116 : decode cX4_rate 116 = .ok (.iload_n 2, 1) := by decide +kernel
theorem dX4_rate_117 : decode cX4_rate 117 = .ok (.iadd, 1) := by decide +kernel
theorem dX4_rate_118 : decode cX4_rate 118 = .ok (.iaload, 1) := by decide +kernel
theorem dX4_rate_119 : decode cX4_rate 119 = .ok (.isub, 1) := by decide +kernel
theorem dX4_rate_120 : decode cX4_rate 120 = .ok (.istore 5, 2) := by decide +kernel
theorem dX4_rate_122 : decode cX4_rate 122 = .ok (.iload_n 1, 1) := by decide +kernel
theorem dX4_rate_123 : decode cX4_rate 123 = .ok (.ifCond .ne 7, 3) := by decide +kernel
theorem dX4_rate_126 : decode cX4_rate 126 = .ok (.iload_n 3, 1) := by decide +kernel
theorem dX4_rate_127 : decode cX4_rate 127 = .ok (.goto 58, 3) := by decide +kernel
theorem dX4_rate_130 : decode cX4_rate 130 = .ok (.iload_n 1, 1) := by decide +kernel
theorem dX4_rate_131 : decode cX4_rate 131 = .ok (.iconst 1, 1) := by decide +kernel
theorem dX4_rate_132 : decode cX4_rate 132 = .ok (.if_icmp .ne 8, 3) := by decide +kernel
theorem dX4_rate_135 : decode cX4_rate 135 = .ok (.iload 4, 2) := by decide +kernel
theorem dX4_rate_137 : decode cX4_rate 137 = .ok (.goto 48, 3) := by decide +kernel
theorem dX4_rate_140 : decode cX4_rate 140 = .ok (.iload_n 1, 1) := by decide +kernel
theorem dX4_rate_141 : decode cX4_rate 141 = .ok (.iconst 2, 1) := by decide +kernel
theorem dX4_rate_142 : decode cX4_rate 142 = .ok (.if_icmp .ne 8, 3) := by decide +kernel
theorem dX4_rate_145 : decode cX4_rate 145 = .ok (.iload 5, 2) := by decide +kernel
theorem dX4_rate_147 : decode cX4_rate 147 = .ok (.goto 38, 3) := by decide +kernel
theorem dX4_rate_150 : decode cX4_rate 150 = .ok (.iload_n 1, 1) := by decide +kernel
theorem dX4_rate_151 : decode cX4_rate 151 = .ok (.iconst 3, 1) := by decide +kernel
theorem dX4_rate_152 : decode cX4_rate 152 = .ok (.if_icmp .ne 10, 3) := by decide +kernel
theorem dX4_rate_155 : decode cX4_rate 155 = .ok (.iconst 2, 1) := by decide +kernel
theorem dX4_rate_156 : decode cX4_rate 156 = .ok (.iload 4, 2) := by decide +kernel
theorem dX4_rate_158 : decode cX4_rate 158 = .ok (.imul, 1) := by decide +kernel
theorem dX4_rate_159 : decode cX4_rate 159 = .ok (.goto 26, 3) := by decide +kernel
theorem dX4_rate_162 : decode cX4_rate 162 = .ok (.iload_n 1, 1) := by decide +kernel
theorem dX4_rate_163 : decode cX4_rate 163 = .ok (.iconst 4, 1) := by decide +kernel
theorem dX4_rate_164 : decode cX4_rate 164 = .ok (.if_icmp .ne 10, 3) := by decide +kernel
theorem dX4_rate_167 : decode cX4_rate 167 = .ok (.iload 5, 2) := by decide +kernel
theorem dX4_rate_169 : decode cX4_rate 169 = .ok (.iload_n 2, 1) := by decide +kernel
theorem dX4_rate_170 : decode cX4_rate 170 = .ok (.iadd, 1) := by decide +kernel
theorem dX4_rate_171 : decode cX4_rate 171 = .ok (.goto 14, 3) := by decide +kernel
theorem dX4_rate_174 : decode cX4_rate 174 = .ok (.iload_n 3, 1) := by decide +kernel
theorem dX4_rate_175 : decode cX4_rate 175 = .ok (.aload_n 0, 1) := by decide +kernel
theorem dX4_rate_176 : decode cX4_rate 176 = .ok (.getfield 19, 3) := by decide +kernel
theorem dX4_rate_179 : decode cX4_rate 179 = .ok (.bipush 15, 2) := by decide +kernel
theorem dX4_rate_181 : decode cX4_rate 181 = .ok (.iload_n 2, 1) := by decide +kernel
theorem dX4_rate_182 : decode cX4_rate 182 = .ok (.iadd, 1) := by decide +kernel
theorem dX4_rate_183 : decode cX4_rate 183 = .ok (.iaload, 1) := by decide +kernel
theorem dX4_rate_184 : decode cX4_rate 184 = .ok (.iadd, 1) := by decide +kernel
theorem dX4_rate_185 : decode cX4_rate 185 = .ok (.ireturn, 1) := by decide +kernel
theorem dX4_keep_0 : decode cX4_keep 0 = .ok (.iload_n 1, 1) := by decide +kernel
theorem dX4_keep_1 : decode cX4_keep 1 = .ok (.iconst 0, 1) := by decide +kernel
theorem dX4_keep_2 : decode cX4_keep 2 = .ok (.iconst 1, 1) := by decide +kernel
theorem dX4_keep_3 : decode cX4_keep 3 = .ok (.invokestatic 67, 3) := by decide +kernel
theorem dX4_keep_6 : decode cX4_keep 6 = .ok (.ifCond .ne 5, 3) := by decide +kernel
theorem dX4_keep_9 : decode cX4_keep 9 = .ok (.iconst (-1), 1) := by decide +kernel
theorem dX4_keep_10 : decode cX4_keep 10 = .ok (.ireturn, 1) := by decide +kernel
theorem dX4_keep_11 : decode cX4_keep 11 = .ok (.iconst 0, 1) := by decide +kernel
theorem dX4_keep_12 : decode cX4_keep 12 = .ok (.istore_n 2, 1) := by decide +kernel
theorem dX4_keep_13 : decode cX4_keep 13 = .ok (.iload_n 2, 1) := by decide +kernel
theorem dX4_keep_14 : decode cX4_keep 14 = .ok (.bipush 21, 2) := by decide +kernel
theorem dX4_keep_16 : decode cX4_keep 16 = .ok (.if_icmp .ge 26, 3) := by decide +kernel
theorem dX4_keep_19 : decode cX4_keep 19 = .ok (.aload_n 0, 1) := by decide +kernel
theorem dX4_keep_20 : decode cX4_keep 20 = .ok (.getfield 25, 3) := by decide +kernel
theorem dX4_keep_23 : decode cX4_keep 23 = .ok (.bipush 21, 2) := by decide +kernel
theorem dX4_keep_25 : decode cX4_keep 25 = .ok (.iload_n 1, 1) := by decide +kernel
theorem dX4_keep_26 : decode cX4_keep 26 = .ok (.imul, 1) := by decide +kernel
theorem dX4_keep_27 : decode cX4_keep 27 = .ok (.iload_n 2, 1) := by decide +kernel
theorem dX4_keep_28 : decode cX4_keep 28 = .ok (.iadd, 1) := by decide +kernel
theorem dX4_keep_29 : decode cX4_keep 29 = .ok (.aload_n 0, 1) := by decide +kernel
theorem dX4_keep_30 : decode cX4_keep 30 = .ok (.getfield 19, 3) := by decide +kernel
theorem dX4_keep_33 : decode cX4_keep 33 = .ok (.iload_n 2, 1) := by decide +kernel
theorem dX4_keep_34 : decode cX4_keep 34 = .ok (.iaload, 1) := by decide +kernel
theorem dX4_keep_35 : decode cX4_keep 35 = .ok (.iastore, 1) := by decide +kernel
theorem dX4_keep_36 : decode cX4_keep 36 = .ok (.iinc 2 1, 3) := by decide +kernel
theorem dX4_keep_39 : decode cX4_keep 39 = .ok (.goto (-26), 3) := by decide +kernel
theorem dX4_keep_42 : decode cX4_keep 42 = .ok (.aload_n 0, 1) := by decide +kernel
theorem dX4_keep_43 : decode cX4_keep 43 = .ok (.getfield 28, 3) := by decide +kernel
theorem dX4_keep_46 : decode cX4_keep 46 = .ok (.iload_n 1, 1) := by decide +kernel
theorem dX4_keep_47 : decode cX4_keep 47 = .ok (.iconst 1, 1) := by decide +kernel
theorem dX4_keep_48 : decode cX4_keep 48 = .ok (.bastore, 1) := by decide +kernel
theorem dX4_keep_49 : decode cX4_keep 49 = .ok (.aload_n 0, 1) := by decide +kernel
theorem dX4_keep_50 : decode cX4_keep 50 = .ok (.getfield 19, 3) := by decide +kernel
theorem dX4_keep_53 : decode cX4_keep 53 = .ok (.iconst 0, 1) := by decide +kernel
theorem dX4_keep_54 : decode cX4_keep 54 = .ok (.iaload, 1) := by decide +kernel
theorem dX4_keep_55 : decode cX4_keep 55 = .ok (.ireturn, 1) := by decide +kernel
theorem dX4_back_0 : decode cX4_back 0 = .ok (.iload_n 1, 1) := by decide +kernel
theorem dX4_back_1 : decode cX4_back 1 = .ok (.iconst 0, 1) := by decide +kernel
theorem dX4_back_2 : decode cX4_back 2 = .ok (.iconst 1, 1) := by decide +kernel
theorem dX4_back_3 : decode cX4_back 3 = .ok (.invokestatic 67, 3) := by decide +kernel
theorem dX4_back_6 : decode cX4_back 6 = .ok (.ifCond .ne 5, 3) := by decide +kernel
theorem dX4_back_9 : decode cX4_back 9 = .ok (.iconst (-1), 1) := by decide +kernel
theorem dX4_back_10 : decode cX4_back 10 = .ok (.ireturn, 1) := by decide +kernel
theorem dX4_back_11 : decode cX4_back 11 = .ok (.aload_n 0, 1) := by decide +kernel
theorem dX4_back_12 : decode cX4_back 12 = .ok (.getfield 28, 3) := by decide +kernel
theorem dX4_back_15 : decode cX4_back 15 = .ok (.iload_n 1, 1) := by decide +kernel
theorem dX4_back_16 : decode cX4_back 16 = .ok (.baload, 1) := by decide +kernel
theorem dX4_back_17 : decode cX4_back 17 = .ok (.ifCond .ne 6, 3) := by decide +kernel
theorem dX4_back_20 : decode cX4_back 20 = .ok (.bipush (-2), 2) := by decide +kernel
theorem dX4_back_22 : decode cX4_back 22 = .ok (.ireturn, 1) := by decide +kernel
theorem dX4_back_23 : decode cX4_back 23 = .ok (.iconst 0, 1) := by decide +kernel
theorem dX4_back_24 : decode cX4_back 24 = .ok (.istore_n 2, 1) := by decide +kernel
theorem dX4_back_25 : decode cX4_back 25 = .ok (.iload_n 2, 1) := by decide +kernel
theorem dX4_back_26 : decode cX4_back 26 = .ok (.bipush 21, 2) := by decide +kernel
theorem dX4_back_28 : decode cX4_back 28 = .ok (.if_icmp .ge 26, 3) := by decide +kernel
theorem dX4_back_31 : decode cX4_back 31 = .ok (.aload_n 0, 1) := by decide +kernel
theorem dX4_back_32 : decode cX4_back 32 = .ok (.getfield 19, 3) := by decide +kernel
theorem dX4_back_35 : decode cX4_back 35 = .ok (.iload_n 2, 1) := by decide +kernel
theorem dX4_back_36 : decode cX4_back 36 = .ok (.aload_n 0, 1) := by decide +kernel
theorem dX4_back_37 : decode cX4_back 37 = .ok (.getfield 25, 3) := by decide +kernel
theorem dX4_back_40 : decode cX4_back 40 = .ok (.bipush 21, 2) := by decide +kernel
theorem dX4_back_42 : decode cX4_back 42 = .ok (.iload_n 1, 1) := by decide +kernel
theorem dX4_back_43 : decode cX4_back 43 = .ok (.imul, 1) := by decide +kernel
theorem dX4_back_44 : decode cX4_back 44 = .ok (.iload_n 2, 1) := by decide +kernel
theorem dX4_back_45 : decode cX4_back 45 = .ok (.iadd, 1) := by decide +kernel
theorem dX4_back_46 : decode cX4_back 46 = .ok (.iaload, 1) := by decide +kernel
theorem dX4_back_47 : decode cX4_back 47 = .ok (.iastore, 1) := by decide +kernel
theorem dX4_back_48 : decode cX4_back 48 = .ok (.iinc 2 1, 3) := by decide +kernel
theorem dX4_back_51 : decode cX4_back 51 = .ok (.goto (-26), 3) := by decide +kernel
theorem dX4_back_54 : decode cX4_back 54 = .ok (.aload_n 0, 1) := by decide +kernel
theorem dX4_back_55 : decode cX4_back 55 = .ok (.iconst 0, 1) := by decide +kernel
theorem dX4_back_56 : decode cX4_back 56 = .ok (.putfield 127, 3) := by decide +kernel
theorem dX4_back_59 : decode cX4_back 59 = .ok (.aload_n 0, 1) := by decide +kernel
theorem dX4_back_60 : decode cX4_back 60 = .ok (.getfield 19, 3) := by decide +kernel
theorem dX4_back_63 : decode cX4_back 63 = .ok (.iconst 0, 1) := by decide +kernel
theorem dX4_back_64 : decode cX4_back 64 = .ok (.iaload, 1) := by decide +kernel
theorem dX4_back_65 : decode cX4_back 65 = .ok (.ireturn, 1) := by decide +kernel
theorem dX4_count_0 : decode cX4_count 0 = .ok (.iload_n 1, 1) := by decide +kernel
theorem dX4_count_1 : decode cX4_count 1 = .ok (.iconst 0, 1) := by decide +kernel
theorem dX4_count_2 : decode cX4_count 2 = .ok (.iconst 5, 1) := by decide +kernel
theorem dX4_count_3 : decode cX4_count 3 = .ok (.invokestatic 67, 3) := by decide +kernel
theorem dX4_count_6 : decode cX4_count 6 = .ok (.ifCond .ne 5, 3) := by decide +kernel
theorem dX4_count_9 : decode cX4_count 9 = .ok (.iconst (-1), 1) := by decide +kernel
theorem dX4_count_10 : decode cX4_count 10 = .ok (.ireturn, 1) := by decide +kernel
theorem dX4_count_11 : decode cX4_count 11 = .ok (.iload_n 1, 1) := by decide +kernel
theorem dX4_count_12 : decode cX4_count 12 = .ok (.iconst 4, 1) := by decide +kernel
theorem dX4_count_13 : decode cX4_count 13 = .ok (.if_icmp .ge 12, 3) := by decide +kernel
theorem dX4_count_16 : decode cX4_count 16 = .ok (.aload_n 0, 1) := by decide +kernel
theorem dX4_count_17 : decode cX4_count 17 = .ok (.getfield 13, 3) := by decide +kernel
theorem dX4_count_20 : decode cX4_count 20 = .ok (.iload_n 1, 1) := by decide +kernel
theorem dX4_count_21 : decode cX4_count 21 = .ok (.iaload, 1) := by decide +kernel
theorem dX4_count_22 : decode cX4_count 22 = .ok (.goto 19, 3) := by decide +kernel
theorem dX4_count_25 : decode cX4_count 25 = .ok (.iload_n 1, 1) := by decide +kernel
theorem dX4_count_26 : decode cX4_count 26 = .ok (.iconst 4, 1) := by decide +kernel
theorem dX4_count_27 : decode cX4_count 27 = .ok (.if_icmp .ne 10, 3) := by decide +kernel
theorem dX4_count_30 : decode cX4_count 30 = .ok (.aload_n 0, 1) := by decide +kernel
theorem dX4_count_31 : decode cX4_count 31 = .ok (.getfield 130, 3) := by decide +kernel
theorem dX4_count_34 : decode cX4_count 34 = .ok (.goto 7, 3) := by decide +kernel
theorem dX4_count_37 : decode cX4_count 37 = .ok (.aload_n 0, 1) := by decide +kernel
theorem dX4_count_38 : decode cX4_count 38 = .ok (.getfield 71, 3) := by decide +kernel
theorem dX4_count_41 : decode cX4_count 41 = .ok (.ireturn, 1) := by decide +kernel
theorem dX4_trace_0 : decode cX4_trace 0 = .ok (.aload_n 0, 1) := by decide +kernel
theorem dX4_trace_1 : decode cX4_trace 1 = .ok (.getfield 198, 3) := by decide +kernel
theorem dX4_trace_4 : decode cX4_trace 4 = .ok (.lreturn, 1) := by decide +kernel
end
section
theorem dL_law_0 : decode code 0 = .ok (.new 7, 3) := by decide +kernel
theorem dL_law_3 : decode code 3 = .ok (.dup, 1) := by decide +kernel
theorem dL_law_4 : decode code 4 = .ok (.invokespecial 9, 3) := by decide +kernel
theorem dL_law_7 : decode code 7 = .ok (.astore_n 1, 1) := by decide +kernel
theorem dL_law_8 : decode code 8 = .ok (.new 10, 3) := by decide +kernel
theorem dL_law_11 : decode code 11 = .ok (.dup, 1) := by decide +kernel
theorem dL_law_12 : decode code 12 = .ok (.invokespecial 12, 3) := by decide +kernel
theorem dL_law_15 : decode code 15 = .ok (.astore_n 2, 1) := by decide +kernel
theorem dL_law_16 : decode code 16 = .ok (.iconst 0, 1) := by decide +kernel
theorem dL_law_17 : decode code 17 = .ok (.istore_n 3, 1) := by decide +kernel
theorem dL_law_18 : decode code 18 = .ok (.iload_n 3, 1) := by decide +kernel
theorem dL_law_19 : decode code 19 = .ok (.aload_n 0, 1) := by decide +kernel
theorem dL_law_20 : decode code 20 = .ok (.arraylength, 1) := by decide +kernel
theorem dL_law_21 : decode code 21 = .ok (.iconst 5, 1) := by decide +kernel
theorem dL_law_22 : decode code 22 = .ok (.isub, 1) := by decide +kernel
theorem dL_law_23 : decode code 23 = .ok (.if_icmp .gt 754, 3) := by decide +kernel
theorem dL_law_26 : decode code 26 = .ok (.aload_n 0, 1) := by decide +kernel
theorem dL_law_27 : decode code 27 = .ok (.iload_n 3, 1) := by decide +kernel
theorem dL_law_28 : decode code 28 = .ok (.iaload, 1) := by decide +kernel
theorem dL_law_29 : decode code 29 = .ok (.bipush 31, 2) := by decide +kernel
theorem dL_law_31 : decode code 31 = .ok (.iand, 1) := by decide +kernel
theorem dL_law_32 : decode code 32 = .ok (.tableswitch 739 0 25 #[120, 143, 156, 169, 202, 235, 268, 291, 324, 337, 350, 373, 386, 419, 432, 485, 508, 531, 564, 577, 590, 623, 656, 679, 702, 725], 120) := by decide +kernel
theorem dL_law_152 : decode code 152 = .ok (.aload_n 1, 1) := by decide +kernel
theorem dL_law_153 : decode code 153 = .ok (.aload_n 0, 1) := by decide +kernel
theorem dL_law_154 : decode code 154 = .ok (.iload_n 3, 1) := by decide +kernel
theorem dL_law_155 : decode code 155 = .ok (.iconst 1, 1) := by decide +kernel
theorem dL_law_156 : decode code 156 = .ok (.iadd, 1) := by decide +kernel
theorem dL_law_157 : decode code 157 = .ok (.iaload, 1) := by decide +kernel
theorem dL_law_158 : decode code 158 = .ok (.invokevirtual 13, 3) := by decide +kernel
theorem dL_law_161 : decode code 161 = .ok (.aload_n 2, 1) := by decide +kernel
theorem dL_law_162 : decode code 162 = .ok (.aload_n 0, 1) := by decide +kernel
theorem dL_law_163 : decode code 163 = .ok (.iload_n 3, 1) := by decide +kernel
theorem dL_law_164 : decode code 164 = .ok (.iconst 1, 1) := by decide +kernel
theorem dL_law_165 : decode code 165 = .ok (.iadd, 1) := by decide +kernel
theorem dL_law_166 : decode code 166 = .ok (.iaload, 1) := by decide +kernel
theorem dL_law_167 : decode code 167 = .ok (.invokevirtual 17, 3) := by decide +kernel
theorem dL_law_170 : decode code 170 = .ok (.if_icmp .eq 601, 3) := by decide +kernel
theorem dL_law_173 : decode code 173 = .ok (.iconst 0, 1) := by decide +kernel
theorem dL_law_174 : decode code 174 = .ok (.ireturn, 1) := by decide +kernel
theorem dL_law_175 : decode code 175 = .ok (.aload_n 1, 1) := by decide +kernel
theorem dL_law_176 : decode code 176 = .ok (.invokevirtual 18, 3) := by decide +kernel
theorem dL_law_179 : decode code 179 = .ok (.aload_n 2, 1) := by decide +kernel
theorem dL_law_180 : decode code 180 = .ok (.invokevirtual 22, 3) := by decide +kernel
theorem dL_law_183 : decode code 183 = .ok (.if_icmp .eq 588, 3) := by decide +kernel
theorem dL_law_186 : decode code 186 = .ok (.iconst 0, 1) := by decide +kernel
theorem dL_law_187 : decode code 187 = .ok (.ireturn, 1) := by decide +kernel
theorem dL_law_188 : decode code 188 = .ok (.aload_n 1, 1) := by decide +kernel
theorem dL_law_189 : decode code 189 = .ok (.invokevirtual 23, 3) := by decide +kernel
theorem dL_law_192 : decode code 192 = .ok (.aload_n 2, 1) := by decide +kernel
theorem dL_law_193 : decode code 193 = .ok (.invokevirtual 26, 3) := by decide +kernel
theorem dL_law_196 : decode code 196 = .ok (.if_icmp .eq 575, 3) := by decide +kernel
theorem dL_law_199 : decode code 199 = .ok (.iconst 0, 1) := by decide +kernel
theorem dL_law_200 : decode code 200 = .ok (.ireturn, 1) := by decide +kernel
theorem dL_law_201 : decode code 201 = .ok (.aload_n 1, 1) := by decide +kernel
theorem dL_law_202 : decode code 202 = .ok (.aload_n 0, 1) := by decide +kernel
theorem dL_law_203 : decode code 203 = .ok (.iload_n 3, 1) := by decide +kernel
theorem dL_law_204 : decode code 204 = .ok (.iconst 1, 1) := by decide +kernel
theorem dL_law_205 : decode code 205 = .ok (.iadd, 1) := by decide +kernel
theorem dL_law_206 : decode code 206 = .ok (.iaload, 1) := by decide +kernel
theorem dL_law_207 : decode code 207 = .ok (.aload_n 0, 1) := by decide +kernel
theorem dL_law_208 : decode code 208 = .ok (.iload_n 3, 1) := by decide +kernel
theorem dL_law_209 : decode code 209 = .ok (.iconst 2, 1) := by decide +kernel
theorem dL_law_210 : decode code 210 = .ok (.iadd, 1) := by decide +kernel
theorem dL_law_211 : decode code 211 = .ok (.iaload, 1) := by decide +kernel
theorem dL_law_212 : decode code 212 = .ok (.invokevirtual 27, 3) := by decide +kernel
theorem dL_law_215 : decode code 215 = .ok (.aload_n 2, 1) := by decide +kernel
theorem dL_law_216 : decode code 216 = .ok (.aload_n 0, 1) := by decide +kernel
theorem dL_law_217 : decode code 217 = .ok (.iload_n 3, 1) := by decide +kernel
theorem dL_law_218 : decode code 218 = .ok (.iconst 1, 1) := by decide +kernel
theorem dL_law_219 : decode code 219 = .ok (.iadd, 1) := by decide +kernel
theorem dL_law_220 : decode code 220 = .ok (.iaload, 1) := by decide +kernel
theorem dL_law_221 : decode code 221 = .ok (.aload_n 0, 1) := by decide +kernel
theorem dL_law_222 : decode code 222 = .ok (.iload_n 3, 1) := by decide +kernel
theorem dL_law_223 : decode code 223 = .ok (.iconst 2, 1) := by decide +kernel
theorem dL_law_224 : decode code 224 = .ok (.iadd, 1) := by decide +kernel
theorem dL_law_225 : decode code 225 = .ok (.iaload, 1) := by decide +kernel
theorem dL_law_226 : decode code 226 = .ok (.invokevirtual 31, 3) := by decide +kernel
theorem dL_law_229 : decode code 229 = .ok (.if_icmp .eq 542, 3) := by decide +kernel
theorem dL_law_232 : decode code 232 = .ok (.iconst 0, 1) := by decide +kernel
theorem dL_law_233 : decode code 233 = .ok (.ireturn, 1) := by decide +kernel
theorem dL_law_234 : decode code 234 = .ok (.aload_n 1, 1) := by decide +kernel
theorem dL_law_235 : decode code 235 = .ok (.aload_n 0, 1) := by decide +kernel
theorem dL_law_236 : decode code 236 = .ok (.iload_n 3, 1) := by decide +kernel
theorem dL_law_237 : decode code 237 = .ok (.iconst 1, 1) := by decide +kernel
theorem dL_law_238 : decode code 238 = .ok (.iadd, 1) := by decide +kernel
theorem dL_law_239 : decode code 239 = .ok (.iaload, 1) := by decide +kernel
theorem dL_law_240 : decode code 240 = .ok (.aload_n 0, 1) := by decide +kernel
theorem dL_law_241 : decode code 241 = .ok (.iload_n 3, 1) := by decide +kernel
theorem dL_law_242 : decode code 242 = .ok (.iconst 2, 1) := by decide +kernel
theorem dL_law_243 : decode code 243 = .ok (.iadd, 1) := by decide +kernel
theorem dL_law_244 : decode code 244 = .ok (.iaload, 1) := by decide +kernel
theorem dL_law_245 : decode code 245 = .ok (.invokevirtual 32, 3) := by decide +kernel
theorem dL_law_248 : decode code 248 = .ok (.aload_n 2, 1) := by decide +kernel
theorem dL_law_249 : decode code 249 = .ok (.aload_n 0, 1) := by decide +kernel
theorem dL_law_250 : decode code 250 = .ok (.iload_n 3, 1) := by decide +kernel
theorem dL_law_251 : decode code 251 = .ok (.iconst 1, 1) := by decide +kernel
theorem dL_law_252 : decode code 252 = .ok (.iadd, 1) := by decide +kernel
theorem dL_law_253 : decode code 253 = .ok (.iaload, 1) := by decide +kernel
theorem dL_law_254 : decode code 254 = .ok (.aload_n 0, 1) := by decide +kernel
theorem dL_law_255 : decode code 255 = .ok (.iload_n 3, 1) := by decide +kernel
theorem dL_law_256 : decode code 256 = .ok (.iconst 2, 1) := by decide +kernel
theorem dL_law_257 : decode code 257 = .ok (.iadd, 1) := by decide +kernel
theorem dL_law_258 : decode code 258 = .ok (.iaload, 1) := by decide +kernel
theorem dL_law_259 : decode code 259 = .ok (.invokevirtual 35, 3) := by decide +kernel
theorem dL_law_262 : decode code 262 = .ok (.if_icmp .eq 509, 3) := by decide +kernel
theorem dL_law_265 : decode code 265 = .ok (.iconst 0, 1) := by decide +kernel
theorem dL_law_266 : decode code 266 = .ok (.ireturn, 1) := by decide +kernel
theorem dL_law_267 : decode code 267 = .ok (.aload_n 1, 1) := by decide +kernel
theorem dL_law_268 : decode code 268 = .ok (.aload_n 0, 1) := by decide +kernel
theorem dL_law_269 : decode code 269 = .ok (.iload_n 3, 1) := by decide +kernel
theorem dL_law_270 : decode code 270 = .ok (.iconst 1, 1) := by decide +kernel
theorem dL_law_271 : decode code 271 = .ok (.iadd, 1) := by decide +kernel
theorem dL_law_272 : decode code 272 = .ok (.iaload, 1) := by decide +kernel
theorem dL_law_273 : decode code 273 = .ok (.aload_n 0, 1) := by decide +kernel
theorem dL_law_274 : decode code 274 = .ok (.iload_n 3, 1) := by decide +kernel
theorem dL_law_275 : decode code 275 = .ok (.iconst 2, 1) := by decide +kernel
theorem dL_law_276 : decode code 276 = .ok (.iadd, 1) := by decide +kernel
theorem dL_law_277 : decode code 277 = .ok (.iaload, 1) := by decide +kernel
theorem dL_law_278 : decode code 278 = .ok (.invokevirtual 36, 3) := by decide +kernel
theorem dL_law_281 : decode code 281 = .ok (.aload_n 2, 1) := by decide +kernel
theorem dL_law_282 : decode code 282 = .ok (.aload_n 0, 1) := by decide +kernel
theorem dL_law_283 : decode code 283 = .ok (.iload_n 3, 1) := by decide +kernel
theorem dL_law_284 : decode code 284 = .ok (.iconst 1, 1) := by decide +kernel
theorem dL_law_285 : decode code 285 = .ok (.iadd, 1) := by decide +kernel
theorem dL_law_286 : decode code 286 = .ok (.iaload, 1) := by decide +kernel
theorem dL_law_287 : decode code 287 = .ok (.aload_n 0, 1) := by decide +kernel
theorem dL_law_288 : decode code 288 = .ok (.iload_n 3, 1) := by decide +kernel
theorem dL_law_289 : decode code 289 = .ok (.iconst 2, 1) := by decide +kernel
theorem dL_law_290 : decode code 290 = .ok (.iadd, 1) := by decide +kernel
theorem dL_law_291 : decode code 291 = .ok (.iaload, 1) := by decide +kernel
theorem dL_law_292 : decode code 292 = .ok (.invokevirtual 39, 3) := by decide +kernel
theorem dL_law_295 : decode code 295 = .ok (.if_icmp .eq 476, 3) := by decide +kernel
theorem dL_law_298 : decode code 298 = .ok (.iconst 0, 1) := by decide +kernel
theorem dL_law_299 : decode code 299 = .ok (.ireturn, 1) := by decide +kernel
theorem dL_law_300 : decode code 300 = .ok (.aload_n 1, 1) := by decide +kernel
theorem dL_law_301 : decode code 301 = .ok (.aload_n 0, 1) := by decide +kernel
theorem dL_law_302 : decode code 302 = .ok (.iload_n 3, 1) := by decide +kernel
theorem dL_law_303 : decode code 303 = .ok (.iconst 1, 1) := by decide +kernel
theorem dL_law_304 : decode code 304 = .ok (.iadd, 1) := by decide +kernel
theorem dL_law_305 : decode code 305 = .ok (.iaload, 1) := by decide +kernel
theorem dL_law_306 : decode code 306 = .ok (.invokevirtual 40, 3) := by decide +kernel
theorem dL_law_309 : decode code 309 = .ok (.aload_n 2, 1) := by decide +kernel
theorem dL_law_310 : decode code 310 = .ok (.aload_n 0, 1) := by decide +kernel
theorem dL_law_311 : decode code 311 = .ok (.iload_n 3, 1) := by decide +kernel
theorem dL_law_312 : decode code 312 = .ok (.iconst 1, 1) := by decide +kernel
theorem dL_law_313 : decode code 313 = .ok (.iadd, 1) := by decide +kernel
theorem dL_law_314 : decode code 314 = .ok (.iaload, 1) := by decide +kernel
theorem dL_law_315 : decode code 315 = .ok (.invokevirtual 43, 3) := by decide +kernel
theorem dL_law_318 : decode code 318 = .ok (.if_icmp .eq 453, 3) := by decide +kernel
theorem dL_law_321 : decode code 321 = .ok (.iconst 0, 1) := by decide +kernel
theorem dL_law_322 : decode code 322 = .ok (.ireturn, 1) := by decide +kernel
theorem dL_law_323 : decode code 323 = .ok (.aload_n 1, 1) := by decide +kernel
theorem dL_law_324 : decode code 324 = .ok (.aload_n 0, 1) := by decide +kernel
theorem dL_law_325 : decode code 325 = .ok (.iload_n 3, 1) := by decide +kernel
theorem dL_law_326 : decode code 326 = .ok (.iconst 1, 1) := by decide +kernel
theorem dL_law_327 : decode code 327 = .ok (.iadd, 1) := by decide +kernel
theorem dL_law_328 : decode code 328 = .ok (.iaload, 1) := by decide +kernel
theorem dL_law_329 : decode code 329 = .ok (.aload_n 0, 1) := by decide +kernel
theorem dL_law_330 : decode code 330 = .ok (.iload_n 3, 1) := by decide +kernel
theorem dL_law_331 : decode code 331 = .ok (.iconst 2, 1) := by decide +kernel
theorem dL_law_332 : decode code 332 = .ok (.iadd, 1) := by decide +kernel
theorem dL_law_333 : decode code 333 = .ok (.iaload, 1) := by decide +kernel
theorem dL_law_334 : decode code 334 = .ok (.invokevirtual 44, 3) := by decide +kernel
theorem dL_law_337 : decode code 337 = .ok (.aload_n 2, 1) := by decide +kernel
theorem dL_law_338 : decode code 338 = .ok (.aload_n 0, 1) := by decide +kernel
theorem dL_law_339 : decode code 339 = .ok (.iload_n 3, 1) := by decide +kernel
theorem dL_law_340 : decode code 340 = .ok (.iconst 1, 1) := by decide +kernel
theorem dL_law_341 : decode code 341 = .ok (.iadd, 1) := by decide +kernel
theorem dL_law_342 : decode code 342 = .ok (.iaload, 1) := by decide +kernel
theorem dL_law_343 : decode code 343 = .ok (.aload_n 0, 1) := by decide +kernel
theorem dL_law_344 : decode code 344 = .ok (.iload_n 3, 1) := by decide +kernel
theorem dL_law_345 : decode code 345 = .ok (.iconst 2, 1) := by decide +kernel
theorem dL_law_346 : decode code 346 = .ok (.iadd, 1) := by decide +kernel
theorem dL_law_347 : decode code 347 = .ok (.iaload, 1) := by decide +kernel
theorem dL_law_348 : decode code 348 = .ok (.invokevirtual 47, 3) := by decide +kernel
theorem dL_law_351 : decode code 351 = .ok (.if_icmp .eq 420, 3) := by decide +kernel
theorem dL_law_354 : decode code 354 = .ok (.iconst 0, 1) := by decide +kernel
theorem dL_law_355 : decode code 355 = .ok (.ireturn, 1) := by decide +kernel
theorem dL_law_356 : decode code 356 = .ok (.aload_n 1, 1) := by decide +kernel
theorem dL_law_357 : decode code 357 = .ok (.invokevirtual 48, 3) := by decide +kernel
theorem dL_law_360 : decode code 360 = .ok (.aload_n 2, 1) := by decide +kernel
theorem dL_law_361 : decode code 361 = .ok (.invokevirtual 51, 3) := by decide +kernel
theorem dL_law_364 : decode code 364 = .ok (.if_icmp .eq 407, 3) := by decide +kernel
theorem dL_law_367 : decode code 367 = .ok (.iconst 0, 1) := by decide +kernel
theorem dL_law_368 : decode code 368 = .ok (.ireturn, 1) := by decide +kernel
theorem dL_law_369 : decode code 369 = .ok (.aload_n 1, 1) := by decide +kernel
theorem dL_law_370 : decode code 370 = .ok (.invokevirtual 52, 3) := by decide +kernel
theorem dL_law_373 : decode code 373 = .ok (.aload_n 2, 1) := by decide +kernel
theorem dL_law_374 : decode code 374 = .ok (.invokevirtual 55, 3) := by decide +kernel
theorem dL_law_377 : decode code 377 = .ok (.if_icmp .eq 394, 3) := by decide +kernel
theorem dL_law_380 : decode code 380 = .ok (.iconst 0, 1) := by decide +kernel
theorem dL_law_381 : decode code 381 = .ok (.ireturn, 1) := by decide +kernel
theorem dL_law_382 : decode code 382 = .ok (.aload_n 1, 1) := by decide +kernel
theorem dL_law_383 : decode code 383 = .ok (.aload_n 0, 1) := by decide +kernel
theorem dL_law_384 : decode code 384 = .ok (.iload_n 3, 1) := by decide +kernel
theorem dL_law_385 : decode code 385 = .ok (.iconst 1, 1) := by decide +kernel
theorem dL_law_386 : decode code 386 = .ok (.iadd, 1) := by decide +kernel
theorem dL_law_387 : decode code 387 = .ok (.iaload, 1) := by decide +kernel
theorem dL_law_388 : decode code 388 = .ok (.invokevirtual 56, 3) := by decide +kernel
theorem dL_law_391 : decode code 391 = .ok (.aload_n 2, 1) := by decide +kernel
theorem dL_law_392 : decode code 392 = .ok (.aload_n 0, 1) := by decide +kernel
theorem dL_law_393 : decode code 393 = .ok (.iload_n 3, 1) := by decide +kernel
theorem dL_law_394 : decode code 394 = .ok (.iconst 1, 1) := by decide +kernel
theorem dL_law_395 : decode code 395 = .ok (.iadd, 1) := by decide +kernel
theorem dL_law_396 : decode code 396 = .ok (.iaload, 1) := by decide +kernel
theorem dL_law_397 : decode code 397 = .ok (.invokevirtual 59, 3) := by decide +kernel
theorem dL_law_400 : decode code 400 = .ok (.if_icmp .eq 371, 3) := by decide +kernel
theorem dL_law_403 : decode code 403 = .ok (.iconst 0, 1) := by decide +kernel
theorem dL_law_404 : decode code 404 = .ok (.ireturn, 1) := by decide +kernel
theorem dL_law_405 : decode code 405 = .ok (.aload_n 1, 1) := by decide +kernel
theorem dL_law_406 : decode code 406 = .ok (.invokevirtual 60, 3) := by decide +kernel
theorem dL_law_409 : decode code 409 = .ok (.aload_n 2, 1) := by decide +kernel
theorem dL_law_410 : decode code 410 = .ok (.invokevirtual 63, 3) := by decide +kernel
theorem dL_law_413 : decode code 413 = .ok (.if_icmp .eq 358, 3) := by decide +kernel
theorem dL_law_416 : decode code 416 = .ok (.iconst 0, 1) := by decide +kernel
theorem dL_law_417 : decode code 417 = .ok (.ireturn, 1) := by decide +kernel
theorem dL_law_418 : decode code 418 = .ok (.aload_n 1, 1) := by decide +kernel
theorem dL_law_419 : decode code 419 = .ok (.aload_n 0, 1) := by decide +kernel
theorem dL_law_420 : decode code 420 = .ok (.iload_n 3, 1) := by decide +kernel
theorem dL_law_421 : decode code 421 = .ok (.iconst 1, 1) := by decide +kernel
theorem dL_law_422 : decode code 422 = .ok (.iadd, 1) := by decide +kernel
theorem dL_law_423 : decode code 423 = .ok (.iaload, 1) := by decide +kernel
theorem dL_law_424 : decode code 424 = .ok (.aload_n 0, 1) := by decide +kernel
theorem dL_law_425 : decode code 425 = .ok (.iload_n 3, 1) := by decide +kernel
theorem dL_law_426 : decode code 426 = .ok (.iconst 2, 1) := by decide +kernel
theorem dL_law_427 : decode code 427 = .ok (.iadd, 1) := by decide +kernel
theorem dL_law_428 : decode code 428 = .ok (.iaload, 1) := by decide +kernel
theorem dL_law_429 : decode code 429 = .ok (.invokevirtual 64, 3) := by decide +kernel
theorem dL_law_432 : decode code 432 = .ok (.aload_n 2, 1) := by decide +kernel
theorem dL_law_433 : decode code 433 = .ok (.aload_n 0, 1) := by decide +kernel
theorem dL_law_434 : decode code 434 = .ok (.iload_n 3, 1) := by decide +kernel
theorem dL_law_435 : decode code 435 = .ok (.iconst 1, 1) := by decide +kernel
theorem dL_law_436 : decode code 436 = .ok (.iadd, 1) := by decide +kernel
theorem dL_law_437 : decode code 437 = .ok (.iaload, 1) := by decide +kernel
theorem dL_law_438 : decode code 438 = .ok (.aload_n 0, 1) := by decide +kernel
theorem dL_law_439 : decode code 439 = .ok (.iload_n 3, 1) := by decide +kernel
theorem dL_law_440 : decode code 440 = .ok (.iconst 2, 1) := by decide +kernel
theorem dL_law_441 : decode code 441 = .ok (.iadd, 1) := by decide +kernel
theorem dL_law_442 : decode code 442 = .ok (.iaload, 1) := by decide +kernel
theorem dL_law_443 : decode code 443 = .ok (.invokevirtual 67, 3) := by decide +kernel
theorem dL_law_446 : decode code 446 = .ok (.if_icmp .eq 325, 3) := by decide +kernel
theorem dL_law_449 : decode code 449 = .ok (.iconst 0, 1) := by decide +kernel
theorem dL_law_450 : decode code 450 = .ok (.ireturn, 1) := by decide +kernel
theorem dL_law_451 : decode code 451 = .ok (.aload_n 1, 1) := by decide +kernel
theorem dL_law_452 : decode code 452 = .ok (.invokevirtual 68, 3) := by decide +kernel
theorem dL_law_455 : decode code 455 = .ok (.aload_n 2, 1) := by decide +kernel
theorem dL_law_456 : decode code 456 = .ok (.invokevirtual 71, 3) := by decide +kernel
theorem dL_law_459 : decode code 459 = .ok (.if_icmp .eq 312, 3) := by decide +kernel
theorem dL_law_462 : decode code 462 = .ok (.iconst 0, 1) := by decide +kernel
theorem dL_law_463 : decode code 463 = .ok (.ireturn, 1) := by decide +kernel
theorem dL_law_464 : decode code 464 = .ok (.aload_n 1, 1) := by decide +kernel
theorem dL_law_465 : decode code 465 = .ok (.aload_n 0, 1) := by decide +kernel
theorem dL_law_466 : decode code 466 = .ok (.iload_n 3, 1) := by decide +kernel
theorem dL_law_467 : decode code 467 = .ok (.iconst 1, 1) := by decide +kernel
theorem dL_law_468 : decode code 468 = .ok (.iadd, 1) := by decide +kernel
theorem dL_law_469 : decode code 469 = .ok (.iaload, 1) := by decide +kernel
theorem dL_law_470 : decode code 470 = .ok (.aload_n 0, 1) := by decide +kernel
theorem dL_law_471 : decode code 471 = .ok (.iload_n 3, 1) := by decide +kernel
theorem dL_law_472 : decode code 472 = .ok (.iconst 2, 1) := by decide +kernel
theorem dL_law_473 : decode code 473 = .ok (.iadd, 1) := by decide +kernel
theorem dL_law_474 : decode code 474 = .ok (.iaload, 1) := by decide +kernel
theorem dL_law_475 : decode code 475 = .ok (.aload_n 0, 1) := by decide +kernel
theorem dL_law_476 : decode code 476 = .ok (.iload_n 3, 1) := by decide +kernel
theorem dL_law_477 : decode code 477 = .ok (.iconst 3, 1) := by decide +kernel
theorem dL_law_478 : decode code 478 = .ok (.iadd, 1) := by decide +kernel
theorem dL_law_479 : decode code 479 = .ok (.iaload, 1) := by decide +kernel
theorem dL_law_480 : decode code 480 = .ok (.aload_n 0, 1) := by decide +kernel
theorem dL_law_481 : decode code 481 = .ok (.iload_n 3, 1) := by decide +kernel
theorem dL_law_482 : decode code 482 = .ok (.iconst 4, 1) := by decide +kernel
theorem dL_law_483 : decode code 483 = .ok (.iadd, 1) := by decide +kernel
theorem dL_law_484 : decode code 484 = .ok (.iaload, 1) := by decide +kernel
theorem dL_law_485 : decode code 485 = .ok (.invokevirtual 72, 3) := by decide +kernel
theorem dL_law_488 : decode code 488 = .ok (.aload_n 2, 1) := by decide +kernel
theorem dL_law_489 : decode code 489 = .ok (.aload_n 0, 1) := by decide +kernel
theorem dL_law_490 : decode code 490 = .ok (.iload_n 3, 1) := by decide +kernel
theorem dL_law_491 : decode code 491 = .ok (.iconst 1, 1) := by decide +kernel
theorem dL_law_492 : decode code 492 = .ok (.iadd, 1) := by decide +kernel
theorem dL_law_493 : decode code 493 = .ok (.iaload, 1) := by decide +kernel
theorem dL_law_494 : decode code 494 = .ok (.aload_n 0, 1) := by decide +kernel
theorem dL_law_495 : decode code 495 = .ok (.iload_n 3, 1) := by decide +kernel
theorem dL_law_496 : decode code 496 = .ok (.iconst 2, 1) := by decide +kernel
theorem dL_law_497 : decode code 497 = .ok (.iadd, 1) := by decide +kernel
theorem dL_law_498 : decode code 498 = .ok (.iaload, 1) := by decide +kernel
theorem dL_law_499 : decode code 499 = .ok (.aload_n 0, 1) := by decide +kernel
theorem dL_law_500 : decode code 500 = .ok (.iload_n 3, 1) := by decide +kernel
theorem dL_law_501 : decode code 501 = .ok (.iconst 3, 1) := by decide +kernel
theorem dL_law_502 : decode code 502 = .ok (.iadd, 1) := by decide +kernel
theorem dL_law_503 : decode code 503 = .ok (.iaload, 1) := by decide +kernel
theorem dL_law_504 : decode code 504 = .ok (.aload_n 0, 1) := by decide +kernel
theorem dL_law_505 : decode code 505 = .ok (.iload_n 3, 1) := by decide +kernel
theorem dL_law_506 : decode code 506 = .ok (.iconst 4, 1) := by decide +kernel
theorem dL_law_507 : decode code 507 = .ok (.iadd, 1) := by decide +kernel
theorem dL_law_508 : decode code 508 = .ok (.iaload, 1) := by decide +kernel
theorem dL_law_509 : decode code 509 = .ok (.invokevirtual 76, 3) := by decide +kernel
theorem dL_law_512 : decode code 512 = .ok (.if_icmp .eq 259, 3) := by decide +kernel
theorem dL_law_515 : decode code 515 = .ok (.iconst 0, 1) := by decide +kernel
theorem dL_law_516 : decode code 516 = .ok (.ireturn, 1) := by decide +kernel
theorem dL_law_517 : decode code 517 = .ok (.aload_n 1, 1) := by decide +kernel
theorem dL_law_518 : decode code 518 = .ok (.aload_n 0, 1) := by decide +kernel
theorem dL_law_519 : decode code 519 = .ok (.iload_n 3, 1) := by decide +kernel
theorem dL_law_520 : decode code 520 = .ok (.iconst 1, 1) := by decide +kernel
theorem dL_law_521 : decode code 521 = .ok (.iadd, 1) := by decide +kernel
theorem dL_law_522 : decode code 522 = .ok (.iaload, 1) := by decide +kernel
theorem dL_law_523 : decode code 523 = .ok (.invokevirtual 77, 3) := by decide +kernel
theorem dL_law_526 : decode code 526 = .ok (.aload_n 2, 1) := by decide +kernel
theorem dL_law_527 : decode code 527 = .ok (.aload_n 0, 1) := by decide +kernel
theorem dL_law_528 : decode code 528 = .ok (.iload_n 3, 1) := by decide +kernel
theorem dL_law_529 : decode code 529 = .ok (.iconst 1, 1) := by decide +kernel
theorem dL_law_530 : decode code 530 = .ok (.iadd, 1) := by decide +kernel
theorem dL_law_531 : decode code 531 = .ok (.iaload, 1) := by decide +kernel
theorem dL_law_532 : decode code 532 = .ok (.invokevirtual 80, 3) := by decide +kernel
theorem dL_law_535 : decode code 535 = .ok (.if_icmp .eq 236, 3) := by decide +kernel
theorem dL_law_538 : decode code 538 = .ok (.iconst 0, 1) := by decide +kernel
theorem dL_law_539 : decode code 539 = .ok (.ireturn, 1) := by decide +kernel
theorem dL_law_540 : decode code 540 = .ok (.aload_n 1, 1) := by decide +kernel
theorem dL_law_541 : decode code 541 = .ok (.aload_n 0, 1) := by decide +kernel
theorem dL_law_542 : decode code 542 = .ok (.iload_n 3, 1) := by decide +kernel
theorem dL_law_543 : decode code 543 = .ok (.iconst 1, 1) := by decide +kernel
theorem dL_law_544 : decode code 544 = .ok (.iadd, 1) := by decide +kernel
theorem dL_law_545 : decode code 545 = .ok (.iaload, 1) := by decide +kernel
theorem dL_law_546 : decode code 546 = .ok (.invokevirtual 81, 3) := by decide +kernel
theorem dL_law_549 : decode code 549 = .ok (.aload_n 2, 1) := by decide +kernel
theorem dL_law_550 : decode code 550 = .ok (.aload_n 0, 1) := by decide +kernel
theorem dL_law_551 : decode code 551 = .ok (.iload_n 3, 1) := by decide +kernel
theorem dL_law_552 : decode code 552 = .ok (.iconst 1, 1) := by decide +kernel
theorem dL_law_553 : decode code 553 = .ok (.iadd, 1) := by decide +kernel
theorem dL_law_554 : decode code 554 = .ok (.iaload, 1) := by decide +kernel
theorem dL_law_555 : decode code 555 = .ok (.invokevirtual 84, 3) := by decide +kernel
theorem dL_law_558 : decode code 558 = .ok (.if_icmp .eq 213, 3) := by decide +kernel
theorem dL_law_561 : decode code 561 = .ok (.iconst 0, 1) := by decide +kernel
theorem dL_law_562 : decode code 562 = .ok (.ireturn, 1) := by decide +kernel
theorem dL_law_563 : decode code 563 = .ok (.aload_n 1, 1) := by decide +kernel
theorem dL_law_564 : decode code 564 = .ok (.aload_n 0, 1) := by decide +kernel
theorem dL_law_565 : decode code 565 = .ok (.iload_n 3, 1) := by decide +kernel
theorem dL_law_566 : decode code 566 = .ok (.iconst 1, 1) := by decide +kernel
theorem dL_law_567 : decode code 567 = .ok (.iadd, 1) := by decide +kernel
theorem dL_law_568 : decode code 568 = .ok (.iaload, 1) := by decide +kernel
theorem dL_law_569 : decode code 569 = .ok (.aload_n 0, 1) := by decide +kernel
theorem dL_law_570 : decode code 570 = .ok (.iload_n 3, 1) := by decide +kernel
theorem dL_law_571 : decode code 571 = .ok (.iconst 2, 1) := by decide +kernel
theorem dL_law_572 : decode code 572 = .ok (.iadd, 1) := by decide +kernel
theorem dL_law_573 : decode code 573 = .ok (.iaload, 1) := by decide +kernel
theorem dL_law_574 : decode code 574 = .ok (.invokevirtual 85, 3) := by decide +kernel
theorem dL_law_577 : decode code 577 = .ok (.aload_n 2, 1) := by decide +kernel
theorem dL_law_578 : decode code 578 = .ok (.aload_n 0, 1) := by decide +kernel
theorem dL_law_579 : decode code 579 = .ok (.iload_n 3, 1) := by decide +kernel
theorem dL_law_580 : decode code 580 = .ok (.iconst 1, 1) := by decide +kernel
theorem dL_law_581 : decode code 581 = .ok (.iadd, 1) := by decide +kernel
theorem dL_law_582 : decode code 582 = .ok (.iaload, 1) := by decide +kernel
theorem dL_law_583 : decode code 583 = .ok (.aload_n 0, 1) := by decide +kernel
theorem dL_law_584 : decode code 584 = .ok (.iload_n 3, 1) := by decide +kernel
theorem dL_law_585 : decode code 585 = .ok (.iconst 2, 1) := by decide +kernel
theorem dL_law_586 : decode code 586 = .ok (.iadd, 1) := by decide +kernel
theorem dL_law_587 : decode code 587 = .ok (.iaload, 1) := by decide +kernel
theorem dL_law_588 : decode code 588 = .ok (.invokevirtual 88, 3) := by decide +kernel
theorem dL_law_591 : decode code 591 = .ok (.if_icmp .eq 180, 3) := by decide +kernel
theorem dL_law_594 : decode code 594 = .ok (.iconst 0, 1) := by decide +kernel
theorem dL_law_595 : decode code 595 = .ok (.ireturn, 1) := by decide +kernel
theorem dL_law_596 : decode code 596 = .ok (.aload_n 1, 1) := by decide +kernel
theorem dL_law_597 : decode code 597 = .ok (.invokevirtual 89, 3) := by decide +kernel
theorem dL_law_600 : decode code 600 = .ok (.aload_n 2, 1) := by decide +kernel
theorem dL_law_601 : decode code 601 = .ok (.invokevirtual 92, 3) := by decide +kernel
theorem dL_law_604 : decode code 604 = .ok (.if_icmp .eq 167, 3) := by decide +kernel
theorem dL_law_607 : decode code 607 = .ok (.iconst 0, 1) := by decide +kernel
theorem dL_law_608 : decode code 608 = .ok (.ireturn, 1) := by decide +kernel
theorem dL_law_609 : decode code 609 = .ok (.aload_n 1, 1) := by decide +kernel
theorem dL_law_610 : decode code 610 = .ok (.invokevirtual 93, 3) := by decide +kernel
theorem dL_law_613 : decode code 613 = .ok (.aload_n 2, 1) := by decide +kernel
theorem dL_law_614 : decode code 614 = .ok (.invokevirtual 96, 3) := by decide +kernel
theorem dL_law_617 : decode code 617 = .ok (.if_icmp .eq 154, 3) := by decide +kernel
theorem dL_law_620 : decode code 620 = .ok (.iconst 0, 1) := by decide +kernel
theorem dL_law_621 : decode code 621 = .ok (.ireturn, 1) := by decide +kernel
theorem dL_law_622 : decode code 622 = .ok (.aload_n 1, 1) := by decide +kernel
theorem dL_law_623 : decode code 623 = .ok (.aload_n 0, 1) := by decide +kernel
theorem dL_law_624 : decode code 624 = .ok (.iload_n 3, 1) := by decide +kernel
theorem dL_law_625 : decode code 625 = .ok (.iconst 1, 1) := by decide +kernel
theorem dL_law_626 : decode code 626 = .ok (.iadd, 1) := by decide +kernel
theorem dL_law_627 : decode code 627 = .ok (.iaload, 1) := by decide +kernel
theorem dL_law_628 : decode code 628 = .ok (.aload_n 0, 1) := by decide +kernel
theorem dL_law_629 : decode code 629 = .ok (.iload_n 3, 1) := by decide +kernel
theorem dL_law_630 : decode code 630 = .ok (.iconst 2, 1) := by decide +kernel
theorem dL_law_631 : decode code 631 = .ok (.iadd, 1) := by decide +kernel
theorem dL_law_632 : decode code 632 = .ok (.iaload, 1) := by decide +kernel
theorem dL_law_633 : decode code 633 = .ok (.invokevirtual 97, 3) := by decide +kernel
theorem dL_law_636 : decode code 636 = .ok (.aload_n 2, 1) := by decide +kernel
theorem dL_law_637 : decode code 637 = .ok (.aload_n 0, 1) := by decide +kernel
theorem dL_law_638 : decode code 638 = .ok (.iload_n 3, 1) := by decide +kernel
theorem dL_law_639 : decode code 639 = .ok (.iconst 1, 1) := by decide +kernel
theorem dL_law_640 : decode code 640 = .ok (.iadd, 1) := by decide +kernel
theorem dL_law_641 : decode code 641 = .ok (.iaload, 1) := by decide +kernel
theorem dL_law_642 : decode code 642 = .ok (.aload_n 0, 1) := by decide +kernel
theorem dL_law_643 : decode code 643 = .ok (.iload_n 3, 1) := by decide +kernel
theorem dL_law_644 : decode code 644 = .ok (.iconst 2, 1) := by decide +kernel
theorem dL_law_645 : decode code 645 = .ok (.iadd, 1) := by decide +kernel
theorem dL_law_646 : decode code 646 = .ok (.iaload, 1) := by decide +kernel
theorem dL_law_647 : decode code 647 = .ok (.invokevirtual 100, 3) := by decide +kernel
theorem dL_law_650 : decode code 650 = .ok (.if_icmp .eq 121, 3) := by decide +kernel
theorem dL_law_653 : decode code 653 = .ok (.iconst 0, 1) := by decide +kernel
theorem dL_law_654 : decode code 654 = .ok (.ireturn, 1) := by decide +kernel
theorem dL_law_655 : decode code 655 = .ok (.aload_n 1, 1) := by decide +kernel
theorem dL_law_656 : decode code 656 = .ok (.aload_n 0, 1) := by decide +kernel
theorem dL_law_657 : decode code 657 = .ok (.iload_n 3, 1) := by decide +kernel
theorem dL_law_658 : decode code 658 = .ok (.iconst 1, 1) := by decide +kernel
theorem dL_law_659 : decode code 659 = .ok (.iadd, 1) := by decide +kernel
theorem dL_law_660 : decode code 660 = .ok (.iaload, 1) := by decide +kernel
theorem dL_law_661 : decode code 661 = .ok (.aload_n 0, 1) := by decide +kernel
theorem dL_law_662 : decode code 662 = .ok (.iload_n 3, 1) := by decide +kernel
theorem dL_law_663 : decode code 663 = .ok (.iconst 2, 1) := by decide +kernel
theorem dL_law_664 : decode code 664 = .ok (.iadd, 1) := by decide +kernel
theorem dL_law_665 : decode code 665 = .ok (.iaload, 1) := by decide +kernel
theorem dL_law_666 : decode code 666 = .ok (.invokevirtual 101, 3) := by decide +kernel
theorem dL_law_669 : decode code 669 = .ok (.aload_n 2, 1) := by decide +kernel
theorem dL_law_670 : decode code 670 = .ok (.aload_n 0, 1) := by decide +kernel
theorem dL_law_671 : decode code 671 = .ok (.iload_n 3, 1) := by decide +kernel
theorem dL_law_672 : decode code 672 = .ok (.iconst 1, 1) := by decide +kernel
theorem dL_law_673 : decode code 673 = .ok (.iadd, 1) := by decide +kernel
theorem dL_law_674 : decode code 674 = .ok (.iaload, 1) := by decide +kernel
theorem dL_law_675 : decode code 675 = .ok (.aload_n 0, 1) := by decide +kernel
theorem dL_law_676 : decode code 676 = .ok (.iload_n 3, 1) := by decide +kernel
theorem dL_law_677 : decode code 677 = .ok (.iconst 2, 1) := by decide +kernel
theorem dL_law_678 : decode code 678 = .ok (.iadd, 1) := by decide +kernel
theorem dL_law_679 : decode code 679 = .ok (.iaload, 1) := by decide +kernel
theorem dL_law_680 : decode code 680 = .ok (.invokevirtual 104, 3) := by decide +kernel
theorem dL_law_683 : decode code 683 = .ok (.if_icmp .eq 88, 3) := by decide +kernel
theorem dL_law_686 : decode code 686 = .ok (.iconst 0, 1) := by decide +kernel
theorem dL_law_687 : decode code 687 = .ok (.ireturn, 1) := by decide +kernel
theorem dL_law_688 : decode code 688 = .ok (.aload_n 1, 1) := by decide +kernel
theorem dL_law_689 : decode code 689 = .ok (.aload_n 0, 1) := by decide +kernel
theorem dL_law_690 : decode code 690 = .ok (.iload_n 3, 1) := by decide +kernel
theorem dL_law_691 : decode code 691 = .ok (.iconst 1, 1) := by decide +kernel
theorem dL_law_692 : decode code 692 = .ok (.iadd, 1) := by decide +kernel
theorem dL_law_693 : decode code 693 = .ok (.iaload, 1) := by decide +kernel
theorem dL_law_694 : decode code 694 = .ok (.invokevirtual 105, 3) := by decide +kernel
theorem dL_law_697 : decode code 697 = .ok (.aload_n 2, 1) := by decide +kernel
theorem dL_law_698 : decode code 698 = .ok (.aload_n 0, 1) := by decide +kernel
theorem dL_law_699 : decode code 699 = .ok (.iload_n 3, 1) := by decide +kernel
theorem dL_law_700 : decode code 700 = .ok (.iconst 1, 1) := by decide +kernel
theorem dL_law_701 : decode code 701 = .ok (.iadd, 1) := by decide +kernel
theorem dL_law_702 : decode code 702 = .ok (.iaload, 1) := by decide +kernel
theorem dL_law_703 : decode code 703 = .ok (.invokevirtual 108, 3) := by decide +kernel
theorem dL_law_706 : decode code 706 = .ok (.if_icmp .eq 65, 3) := by decide +kernel
theorem dL_law_709 : decode code 709 = .ok (.iconst 0, 1) := by decide +kernel
theorem dL_law_710 : decode code 710 = .ok (.ireturn, 1) := by decide +kernel
theorem dL_law_711 : decode code 711 = .ok (.aload_n 1, 1) := by decide +kernel
theorem dL_law_712 : decode code 712 = .ok (.aload_n 0, 1) := by decide +kernel
theorem dL_law_713 : decode code 713 = .ok (.iload_n 3, 1) := by decide +kernel
theorem dL_law_714 : decode code 714 = .ok (.iconst 1, 1) := by decide +kernel
theorem dL_law_715 : decode code 715 = .ok (.iadd, 1) := by decide +kernel
theorem dL_law_716 : decode code 716 = .ok (.iaload, 1) := by decide +kernel
theorem dL_law_717 : decode code 717 = .ok (.invokevirtual 109, 3) := by decide +kernel
theorem dL_law_720 : decode code 720 = .ok (.aload_n 2, 1) := by decide +kernel
theorem dL_law_721 : decode code 721 = .ok (.aload_n 0, 1) := by decide +kernel
theorem dL_law_722 : decode code 722 = .ok (.iload_n 3, 1) := by decide +kernel
theorem dL_law_723 : decode code 723 = .ok (.iconst 1, 1) := by decide +kernel
theorem dL_law_724 : decode code 724 = .ok (.iadd, 1) := by decide +kernel
theorem dL_law_725 : decode code 725 = .ok (.iaload, 1) := by decide +kernel
theorem dL_law_726 : decode code 726 = .ok (.invokevirtual 112, 3) := by decide +kernel
theorem dL_law_729 : decode code 729 = .ok (.if_icmp .eq 42, 3) := by decide +kernel
theorem dL_law_732 : decode code 732 = .ok (.iconst 0, 1) := by decide +kernel
theorem dL_law_733 : decode code 733 = .ok (.ireturn, 1) := by decide +kernel
theorem dL_law_734 : decode code 734 = .ok (.aload_n 1, 1) := by decide +kernel
theorem dL_law_735 : decode code 735 = .ok (.aload_n 0, 1) := by decide +kernel
theorem dL_law_736 : decode code 736 = .ok (.iload_n 3, 1) := by decide +kernel
theorem dL_law_737 : decode code 737 = .ok (.iconst 1, 1) := by decide +kernel
theorem dL_law_738 : decode code 738 = .ok (.iadd, 1) := by decide +kernel
theorem dL_law_739 : decode code 739 = .ok (.iaload, 1) := by decide +kernel
theorem dL_law_740 : decode code 740 = .ok (.invokevirtual 113, 3) := by decide +kernel
theorem dL_law_743 : decode code 743 = .ok (.aload_n 2, 1) := by decide +kernel
theorem dL_law_744 : decode code 744 = .ok (.aload_n 0, 1) := by decide +kernel
theorem dL_law_745 : decode code 745 = .ok (.iload_n 3, 1) := by decide +kernel
theorem dL_law_746 : decode code 746 = .ok (.iconst 1, 1) := by decide +kernel
theorem dL_law_747 : decode code 747 = .ok (.iadd, 1) := by decide +kernel
theorem dL_law_748 : decode code 748 = .ok (.iaload, 1) := by decide +kernel
theorem dL_law_749 : decode code 749 = .ok (.invokevirtual 116, 3) := by decide +kernel
theorem dL_law_752 : decode code 752 = .ok (.if_icmp .eq 19, 3) := by decide +kernel
theorem dL_law_755 : decode code 755 = .ok (.iconst 0, 1) := by decide +kernel
theorem dL_law_756 : decode code 756 = .ok (.ireturn, 1) := by decide +kernel
theorem dL_law_757 : decode code 757 = .ok (.aload_n 1, 1) := by decide +kernel
theorem dL_law_758 : decode code 758 = .ok (.invokevirtual 117, 3) := by decide +kernel
theorem dL_law_761 : decode code 761 = .ok (.aload_n 2, 1) := by decide +kernel
theorem dL_law_762 : decode code 762 = .ok (.invokevirtual 121, 3) := by decide +kernel
theorem dL_law_765 : decode code 765 = .ok (.lcmp, 1) := by decide +kernel
theorem dL_law_766 : decode code 766 = .ok (.ifCond .eq 5, 3) := by decide +kernel
theorem dL_law_769 : decode code 769 = .ok (.iconst 0, 1) := by decide +kernel
theorem dL_law_770 : decode code 770 = .ok (.ireturn, 1) := by decide +kernel
theorem dL_law_771 : decode code 771 = .ok (.iinc 3 5, 3) := by decide +kernel
theorem dL_law_774 : decode code 774 = .ok (.goto (-756), 3) := by decide +kernel
theorem dL_law_777 : decode code 777 = .ok (.iconst 1, 1) := by decide +kernel
theorem dL_law_778 : decode code 778 = .ok (.ireturn, 1) := by decide +kernel
end
section
theorem n_and (a b : Nat) : nI a &&& nI b = nI (a &&& b) := by
  apply Int32.toBitVec_inj.1
  show BitVec.ofNat 32 a &&& BitVec.ofNat 32 b = BitVec.ofNat 32 (a &&& b)
  apply BitVec.eq_of_getLsbD_eq
  intro i hi
  simp [hi]
theorem n_or (a b : Nat) : nI a ||| nI b = nI (a ||| b) := by
  apply Int32.toBitVec_inj.1
  show BitVec.ofNat 32 a ||| BitVec.ofNat 32 b = BitVec.ofNat 32 (a ||| b)
  apply BitVec.eq_of_getLsbD_eq
  intro i hi
  simp [hi]
/-- what is in a and not in b -/
def dif (a b : Nat) : Nat := a ^^^ (a &&& b)
theorem dif_bit (a b i : Nat) : (dif a b).testBit i = (a.testBit i && !b.testBit i) := by
  simp only [dif, Nat.testBit_xor, Nat.testBit_and]
  cases a.testBit i <;> cases b.testBit i <;> rfl
theorem n_dif (a b : Nat) : nI a &&& (nI b ^^^ -1) = nI (dif a b) := by
  apply Int32.toBitVec_inj.1
  show BitVec.ofNat 32 a &&& (BitVec.ofNat 32 b ^^^ BitVec.allOnes 32) = BitVec.ofNat 32 (dif a b)
  apply BitVec.eq_of_getLsbD_eq
  intro i hi
  rw [BitVec.getLsbD_and, BitVec.getLsbD_xor, BitVec.getLsbD_allOnes, BitVec.getLsbD_ofNat, BitVec.getLsbD_ofNat, BitVec.getLsbD_ofNat, dif_bit]
  simp [hi]
theorem s_amt : ∀ n, n < 32 → ((nI n &&& 31).toBitVec.smod 32).toNat = n := by decide +kernel
theorem n_shr {w i : Nat} (hw : w < 2 ^ 31) (hi : i < 32) : nI w >>> (nI i &&& 31) = nI (w / 2 ^ i) := pk_shrN hw _ i (s_amt i hi)
theorem n_shl {w i : Nat} (hi : i < 32) (hw : w * 2 ^ i < 2 ^ 32) : nI w <<< (nI i &&& 31) = nI (w * 2 ^ i) := pk_shlN _ i (s_amt i hi) hw
theorem n_one {i : Nat} (hi : i < 32) : (1 : Int32) <<< (nI i &&& 31) = nI (2 ^ i) := by
  have h := n_shl (w := 1) hi (by rw [Nat.one_mul]; exact Nat.pow_lt_pow_right (by decide) hi)
  rw [Nat.one_mul] at h
  exact h
/-- a bit as a number -/
def bn (b : Bool) : Nat := if b then 1 else 0
theorem bn_lt (b : Bool) : bn b < 2 := by cases b <;> decide
theorem bn_le (b : Bool) : bn b ≤ 1 := by cases b <;> decide
theorem tb_div (w i : Nat) : w / 2 ^ i % 2 = bn (w.testBit i) := by
  unfold bn
  rw [Nat.testBit_eq_decide_div_mod_eq]
  rcases Nat.mod_two_eq_zero_or_one (w / 2 ^ i) with h | h <;> rw [h] <;> rfl
theorem n_bit {w i : Nat} (hw : w < 2 ^ 31) (hi : i < 32) : (nI w >>> (nI i &&& 31)) &&& 1 = nI (bn (w.testBit i)) := by
  rw [n_shr hw hi, show (1 : Int32) = nI (2 ^ 1 - 1) from rfl, n_and, Nat.and_two_pow_sub_one_eq_mod, ← tb_div]
theorem n_bn (b : Bool) : nI (bn b) = if b then 1 else 0 := by cases b <;> rfl
/-- a truth as the machine's 0 or 1 -/
def bi (p : Prop) [Decidable p] : Int32 := if p then 1 else 0
theorem bi_t {p : Prop} [Decidable p] (h : p) : bi p = 1 := if_pos h
theorem bi_f {p : Prop} [Decidable p] (h : ¬ p) : bi p = 0 := if_neg h
theorem bi_z {p : Prop} [Decidable p] : bi p = 0 ↔ ¬ p := by
  unfold bi; split
  · rename_i h; exact ⟨fun q => absurd q (by decide), fun q => absurd h q⟩
  · rename_i h; exact ⟨fun _ => h, fun _ => rfl⟩
theorem bi_nz {p : Prop} [Decidable p] : ¬ bi p = 0 ↔ p := by rw [bi_z]; exact Decidable.not_not
theorem bi_nar {p : Prop} [Decidable p] : narrow .boolean (.int (bi p)) = .int (bi p) := by unfold bi; split <;> rfl
theorem bi_cong {p q : Prop} [Decidable p] [Decidable q] (h : p ↔ q) : bi p = bi q := by unfold bi; by_cases hq : q <;> simp [h, hq]
/-- how many of the first n bits -/
def popn : Nat → Nat → Nat
  | 0, _ => 0
  | n + 1, w => popn n w + bn (w.testBit n)
def pop (w : Nat) : Nat := popn 8 w
theorem popn_le (n w : Nat) : popn n w ≤ n := by
  induction n with
  | zero => exact Nat.le_refl _
  | succ n ih => have := bn_le (w.testBit n); unfold popn; omega
theorem pop_le (w : Nat) : pop w ≤ 8 := popn_le 8 w
theorem tb_small {w i : Nat} (h : w < 2 ^ i) : w.testBit i = false := Nat.testBit_lt_two_pow h
theorem popn_small {w k : Nat} (h : w < 2 ^ k) : ∀ n, k ≤ n → popn n w = popn k w := by
  intro n hn
  induction n with
  | zero => rw [Nat.le_zero.mp hn]
  | succ n ih =>
    by_cases e : k = n + 1
    · rw [e]
    · have : k ≤ n := by omega
      show popn n w + bn (w.testBit n) = popn k w
      rw [ih this, tb_small (Nat.lt_of_lt_of_le h (Nat.pow_le_pow_right (by decide) this))]
      rfl
theorem popn_congr {n a b : Nat} (h : ∀ i, i < n → a.testBit i = b.testBit i) : popn n a = popn n b := by
  induction n with
  | zero => rfl
  | succ n ih => unfold popn; rw [ih (fun i hi => h i (by omega)), h n (by omega)]
theorem bn_one {b : Bool} : nI (bn b) = 1 ↔ b = true := by cases b <;> simp [bn] <;> decide
theorem bn_zero {b : Bool} : nI (bn b) = 0 ↔ b = false := by cases b <;> simp [bn] <;> decide
/-- the first k places of row b are f's -/
def rowM (M : HM) (b k : Nat) (f : Nat → Int32) : HM := fun z j => if z = b ∧ j < k then f j else M z j
theorem rowM_0 (M : HM) (b : Nat) (f : Nat → Int32) : rowM M b 0 f = M := by funext z j; simp [rowM]
theorem rowM_at (M : HM) (b k : Nat) (f : Nat → Int32) (z : Nat) : rowM M b k f z k = M z k := by simp [rowM]
theorem rowM_ne (M : HM) {b : Nat} (k : Nat) (f : Nat → Int32) {z : Nat} (h : z ≠ b) (j : Nat) : rowM M b k f z j = M z j := by simp [rowM, h]
theorem rowM_in (M : HM) (b : Nat) {k : Nat} (f : Nat → Int32) {j : Nat} (h : j < k) : rowM M b k f b j = f j := by simp [rowM, h]
theorem rowM_s (M : HM) (b k : Nat) (f : Nat → Int32) {v : Int32} (hv : v = f k) : st2 (rowM M b k f) b k v = rowM M b (k + 1) f := by
  subst hv
  funext z j
  simp only [st2, rowM]
  by_cases h1 : z = b
  · by_cases h2 : j = k
    · simp [h1, h2]
    · by_cases h3 : j < k
      · simp [h1, h2, h3, Nat.lt_succ_of_lt h3]
      · simp [h1, h2, h3, show ¬ j < k + 1 by omega]
  · simp [h1]
/-- a heap's four parts by their ints alone -/
theorem hp_M {n : Nat} {M M' : HM} {Rf : HR} {Lg : HL} (h : M = M') : ((n, M, Rf, Lg) : HP) = (n, M', Rf, Lg) := by rw [h]
theorem le_N {a b : Nat} (ha : a < 2147483648) (hb : b < 2147483648) {x y : Int32} (hx : x = nI a) (hy : y = nI b) : x ≤ y ↔ a ≤ b := by rw [hx, hy]; exact nI_leI ha hb
theorem lt_N {a b : Nat} (ha : a < 2147483648) (hb : b < 2147483648) {x y : Int32} (hx : x = nI a) (hy : y = nI b) : x < y ↔ a < b := by rw [hx, hy]; exact nI_ltI ha hb
theorem eq_N {a b : Nat} (ha : a < 2147483648) (hb : b < 2147483648) {x y : Int32} (hx : x = nI a) (hy : y = nI b) : x = y ↔ a = b := by rw [hx, hy]; exact nI_eq ha hb
end
section
/-! sets as numbers -/
def mk (p : Nat → Bool) : Nat → Nat
  | 0 => 0
  | n + 1 => mk p n ||| (if p n then 2 ^ n else 0)
theorem mk_lt (p : Nat → Bool) (n : Nat) : mk p n < 2 ^ n := by
  induction n with
  | zero => exact Nat.one_pos
  | succ n ih =>
    have h2 : 2 ^ n < 2 ^ (n + 1) := Nat.pow_lt_pow_right (by decide) (Nat.lt_succ_self n)
    exact Nat.or_lt_two_pow (Nat.lt_trans ih h2) (by split <;> first | exact h2 | exact Nat.two_pow_pos _)
theorem mk_bit (p : Nat → Bool) (n i : Nat) : (mk p n).testBit i = (decide (i < n) && p i) := by
  induction n with
  | zero => simp [mk]
  | succ n ih =>
    show (mk p n ||| (if p n then 2 ^ n else 0)).testBit i = _
    rw [Nat.testBit_or, ih]
    by_cases h : p n = true
    · rw [if_pos h, Nat.testBit_two_pow]
      by_cases e : n = i
      · subst e; simp [h]
      · by_cases l : i < n
        · simp [l, e, Nat.lt_succ_of_lt l]
        · simp [l, e, show ¬ i < n + 1 by omega]
    · rw [if_neg h, Nat.zero_testBit]
      by_cases e : i = n
      · subst e; simp [h]
      · by_cases l : i < n
        · simp [l, Nat.lt_succ_of_lt l]
        · simp [l, show ¬ i < n + 1 by omega]
theorem mk_f {p : Nat → Bool} {n : Nat} (h : p n = false) : mk p (n + 1) = mk p n := by
  show mk p n ||| (if p n then 2 ^ n else 0) = _
  rw [h]; simp
theorem mk_t {p : Nat → Bool} {n : Nat} (h : p n = true) (hn : n < 32) : nI (mk p n) ||| ((1 : Int32) <<< (nI n &&& 31)) = nI (mk p (n + 1)) := by
  rw [n_one hn, n_or]
  show _ = nI (mk p n ||| (if p n then 2 ^ n else 0))
  rw [h]; rfl
theorem mk_congr {p q : Nat → Bool} {n : Nat} (h : ∀ i, i < n → p i = q i) : mk p n = mk q n := by
  induction n with
  | zero => rfl
  | succ n ih =>
    show mk p n ||| _ = mk q n ||| _
    rw [ih (fun i hi => h i (by omega)), h n (by omega)]
theorem mk_le (p : Nat → Bool) {n k : Nat} (h : n ≤ k) : mk p n < 2 ^ k := Nat.lt_of_lt_of_le (mk_lt p n) (Nat.pow_le_pow_right (by decide) h)
theorem bit_ext {a b k : Nat} (ha : a < 2 ^ k) (hb : b < 2 ^ k) (h : ∀ i, i < k → a.testBit i = b.testBit i) : a = b := by
  apply Nat.eq_of_testBit_eq
  intro i
  by_cases l : i < k
  · exact h i l
  · rw [tb_small (Nat.lt_of_lt_of_le ha (Nat.pow_le_pow_right (by decide) (by omega))), tb_small (Nat.lt_of_lt_of_le hb (Nat.pow_le_pow_right (by decide) (by omega)))]
theorem mk_of {w k : Nat} (h : w < 2 ^ k) : mk (fun i => w.testBit i) k = w := bit_ext (mk_lt _ k) h (fun i hi => by rw [mk_bit]; simp [hi])
theorem mk_and (p q : Nat → Bool) (n : Nat) : mk p n &&& mk q n = mk (fun i => p i && q i) n := by
  refine bit_ext (k := n) (Nat.and_lt_two_pow _ (mk_lt q n)) (mk_lt _ n) (fun i hi => ?_)
  rw [Nat.testBit_and, mk_bit, mk_bit, mk_bit]; simp [hi]
theorem mk_or (p q : Nat → Bool) (n : Nat) : mk p n ||| mk q n = mk (fun i => p i || q i) n := by
  refine bit_ext (k := n) (Nat.or_lt_two_pow (mk_lt p n) (mk_lt q n)) (mk_lt _ n) (fun i hi => ?_)
  rw [Nat.testBit_or, mk_bit, mk_bit, mk_bit]; simp [hi]
theorem dif_lt {a b k : Nat} (h : a < 2 ^ k) : dif a b < 2 ^ k := Nat.xor_lt_two_pow h (Nat.lt_of_le_of_lt Nat.and_le_left h)
theorem mk_dif (p q : Nat → Bool) (n : Nat) : dif (mk p n) (mk q n) = mk (fun i => p i && !q i) n := by
  refine bit_ext (k := n) (dif_lt (mk_lt p n)) (mk_lt _ n) (fun i hi => ?_)
  rw [dif_bit, mk_bit, mk_bit, mk_bit]; simp [hi]
theorem p2_6 : (2 : Nat) ^ 6 = 64 := rfl
theorem mk6 (p : Nat → Bool) {n : Nat} (h : n ≤ 6) : mk p n < 64 := mk_le p (k := 6) h
theorem mk31 (p : Nat → Bool) {n : Nat} (h : n ≤ 6) : mk p n < 2 ^ 31 := Nat.lt_of_lt_of_le (mk6 p h) (by decide)
/-! a city by 56 numbers (districts, quota, citizens, noises, items, quota told; roads 6, beds 10, home 14, tired at first 20, work 26, deep 32, where 38, when 44, loud 50), what goes on from hour to hour by 21 (day, hour, lapses, tired 3, called 9, slept 15) -/
def okT (T : Nat → Nat) : Prop := (1 ≤ T 0 ∧ T 0 ≤ 4) ∧ T 1 ≤ 6 ∧ T 2 ≤ 6 ∧ T 3 ≤ 6 ∧ (∀ d, d < 4 → T (6 + d) < 16 ∧ T (10 + d) ≤ 6) ∧ (∀ i, i < T 2 → T (14 + i) < T 0 ∧ T (20 + i) ≤ 20 ∧ T (26 + i) ≤ 255 ∧ 1 ≤ T (32 + i) ∧ T (32 + i) ≤ 9) ∧ ∀ i, i < T 3 → T (38 + i) < T 0 ∧ T (44 + i) ≤ 7 ∧ 1 ≤ T (50 + i) ∧ T (50 + i) ≤ 9
def okS (S : Nat → Nat) (C b : Nat) : Prop := S 0 ≤ b ∧ S 1 < 8 ∧ S 2 ≤ b ∧ ∀ i, i < C → S (3 + i) ≤ 20 ∧ S (9 + i) ≤ 255 ∧ S (15 + i) ≤ b
/-- the citizens of a district -/
def liv (T : Nat → Nat) (d : Nat) : Nat := mk (fun i => T (14 + i) == d) (T 2)
/-- whom a noise of this loudness in this district wakes -/
def wkB (T : Nat → Nat) (d v : Nat) : Nat := mk (fun i => T (14 + i) == d && decide (T (32 + i) < v)) (T 2)
/-- whether the citizen i is woken by one of the first k noises that are heard -/
def wkP (T : Nat → Nat) (hd : Nat) (i : Nat) : Nat → Bool
  | 0 => false
  | k + 1 => wkP T hd i k || (hd.testBit k && (T (14 + i) == T (38 + k) && decide (T (32 + i) < T (50 + k))))
def wkA (T : Nat → Nat) (hd : Nat) : Nat := mk (fun i => wkP T hd i (T 3)) (T 2)
/-- the noises of an hour -/
def nsO (T : Nat → Nat) (h : Nat) : Nat := mk (fun i => T (44 + i) == h) (T 3)
def idl (T : Nat → Nat) (h : Nat) : Nat := mk (fun i => !(T (26 + i)).testBit h) (T 2)
def rst (T : Nat → Nat) (h : Nat) : Nat := dif (idl T h) (wkA T (nsO T h))
/-- a city as the class has it at c -/
def cyT (M : HM) (c : Nat) (T : Nat → Nat) : Prop := M c 0 = nI (T 0) ∧ M c 1 = nI (T 1) ∧ M c 5 = nI (T 2) ∧ M c 10 = nI (T 3) ∧ (∀ d, d < 4 → M (c + 1) d = nI (T (10 + d))) ∧ (∀ d, d < 4 → M (c + 2) d = nI (T (6 + d))) ∧ (∀ i, i < T 2 → M (c + 3) i = nI (T (14 + i)) ∧ M (c + 4) i = nI (T (20 + i)) ∧ M (c + 5) i = nI (T (26 + i)) ∧ M (c + 6) i = nI (T (32 + i))) ∧ (∀ i, i < T 3 → M (c + 7) i = nI (T (38 + i)) ∧ M (c + 8) i = nI (T (44 + i)) ∧ M (c + 9) i = nI (T (50 + i))) ∧ ∀ d, d < 4 → M (c + 10) d = nI (liv T d)
def cyR (M : HM) (c : Nat) (T : Nat → Nat) : Prop := ∀ h, h < 8 → M (c + 11) h = nI (rst T h)
def nwS (M : HM) (a : Nat) (S : Nat → Nat) (C : Nat) : Prop := M a 0 = nI (S 0) ∧ M a 1 = nI (S 1) ∧ M a 2 = nI (S 2) ∧ ∀ i, i < C → M (a + 1) i = nI (S (3 + i)) ∧ M (a + 2) i = nI (S (9 + i)) ∧ M (a + 3) i = nI (S (15 + i))
def RCi (Rf : HR) (c : Nat) : Prop := Rf c 3 = some (c + 1) ∧ Rf c 4 = some (c + 2) ∧ Rf c 6 = some (c + 3) ∧ Rf c 7 = some (c + 4) ∧ Rf c 8 = some (c + 5) ∧ Rf c 9 = some (c + 6) ∧ Rf c 11 = some (c + 7) ∧ Rf c 12 = some (c + 8) ∧ Rf c 13 = some (c + 9) ∧ Rf c 14 = some (c + 10) ∧ Rf c 15 = some (c + 11)
theorem city_shp {c : Nat} (h : c = 4 ∨ c = 16) : shp c = (0, 16) ∧ shp (c + 1) = (6, 4) ∧ shp (c + 2) = (6, 4) ∧ shp (c + 3) = (6, 6) ∧ shp (c + 4) = (6, 6) ∧ shp (c + 5) = (6, 6) ∧ shp (c + 6) = (6, 6) ∧ shp (c + 7) = (6, 6) ∧ shp (c + 8) = (6, 6) ∧ shp (c + 9) = (6, 6) ∧ shp (c + 10) = (6, 4) ∧ shp (c + 11) = (6, 8) := by
  rcases h with rfl | rfl <;> decide
/-- the places of what goes on from hour to hour -/
def nows : List Nat := [28, 32, 48, 52, 56, 60, 64, 68, 72, 76, 80, 84, 88, 92]
def RNi (Rf : HR) (a : Nat) : Prop := Rf a 3 = some (a + 1) ∧ Rf a 4 = some (a + 2) ∧ Rf a 5 = some (a + 3)
theorem now_shp {a : Nat} (h : a ∈ nows) : shp a = (1, 6) ∧ shp (a + 1) = (6, 6) ∧ shp (a + 2) = (6, 6) ∧ shp (a + 3) = (6, 6) ∧ a + 3 < 96 := by
  have key : ∀ a ∈ nows, shp a = (1, 6) ∧ shp (a + 1) = (6, 6) ∧ shp (a + 2) = (6, 6) ∧ shp (a + 3) = (6, 6) ∧ a + 3 < 96 := by decide
  exact key a h
end
section
section M1
variable {Λ : PL} {d n : Nat} {M : HM} {Rf : HR} {Lg : HL}

set_option maxHeartbeats 2000000 in
set_option maxRecDepth 20000 in
theorem cX4in (v a b : Int32) : Ret Λ (d) mX4_in [.int v, .int a, .int b] (n, M, Rf, Lg) (some (.int (bi (a ≤ v ∧ v ≤ b)))) (n, M, Rf, Lg) 0 0 := by
  refine Ret.of rfl rfl rfl (fun κ o f hin => ?_)
  refine g_iload_n (pc := 0) o 0 dX4_in_0 rfl rfl ?_
  refine g_iload_n (pc := 1) o 1 dX4_in_1 rfl rfl ?_
  refine g_icmp_lt (pc := 2) o 14 dX4_in_2 (by decide) (fun q2 => ?_) (fun q2 => ?_)
  · refine g_iconst (pc := 14) (v := 0) o dX4_in_14 (by decide) ?_
    exact g_iret (pc := 15) o f dX4_in_15 rfl (by first | exact (bi_t ⟨Int32.not_lt.mp ‹_›, Int32.not_lt.mp ‹_›⟩).symm | exact (bi_f (fun q => absurd ‹_ < _› (Int32.not_lt.mpr q.1))).symm | exact (bi_f (fun q => absurd ‹_ < _› (Int32.not_lt.mpr q.2))).symm) rfl
  · refine g_iload_n (pc := 5) o 0 dX4_in_5 rfl rfl ?_
    refine g_iload_n (pc := 6) o 2 dX4_in_6 rfl rfl ?_
    refine g_icmp_gt (pc := 7) o 14 dX4_in_7 (by decide) (fun q7 => ?_) (fun q7 => ?_)
    · refine g_iconst (pc := 14) (v := 0) o dX4_in_14 (by decide) ?_
      exact g_iret (pc := 15) o f dX4_in_15 rfl (by first | exact (bi_t ⟨Int32.not_lt.mp ‹_›, Int32.not_lt.mp ‹_›⟩).symm | exact (bi_f (fun q => absurd ‹_ < _› (Int32.not_lt.mpr q.1))).symm | exact (bi_f (fun q => absurd ‹_ < _› (Int32.not_lt.mpr q.2))).symm) rfl
    · refine g_iconst (pc := 10) (v := 1) o dX4_in_10 (by decide) ?_
      refine g_goto (pc := 11) o 15 dX4_in_11 (by decide) ?_
      exact g_iret (pc := 15) o f dX4_in_15 rfl (by first | exact (bi_t ⟨Int32.not_lt.mp ‹_›, Int32.not_lt.mp ‹_›⟩).symm | exact (bi_f (fun q => absurd ‹_ < _› (Int32.not_lt.mpr q.1))).symm | exact (bi_f (fun q => absurd ‹_ < _› (Int32.not_lt.mpr q.2))).symm) rfl

set_option maxHeartbeats 2000000 in
set_option maxRecDepth 20000 in
theorem cX3has {w i : Nat} (hw : w < 2 ^ 31) (hi : i < 32) : Ret Λ (d) mX3_has [.int (nI w), .int (nI i)] (n, M, Rf, Lg) (some (.int (bi (w.testBit i = true)))) (n, M, Rf, Lg) 0 0 := by
  refine Ret.of rfl rfl rfl (fun κ o f hin => ?_)
  refine g_iload_n (pc := 0) o 0 dX3_has_0 rfl rfl ?_
  refine g_iload_n (pc := 1) o 1 dX3_has_1 rfl rfl ?_
  refine g_ishr (pc := 2) o dX3_has_2 ?_
  refine g_iconst (pc := 3) (v := 1) o dX3_has_3 (by decide) ?_
  refine g_iand (pc := 4) o dX3_has_4 ?_
  rw [n_bit hw hi]
  refine g_iconst (pc := 5) (v := 1) o dX3_has_5 (by decide) ?_
  refine g_icmp_ne (pc := 6) o 13 dX3_has_6 (by decide) (fun q6 => ?_) (fun q6 => ?_)
  · refine g_iconst (pc := 13) (v := 0) o dX3_has_13 (by decide) ?_
    exact g_iret (pc := 14) o f dX3_has_14 rfl (by first | exact (bi_t (bn_one.mp q6)).symm | exact (bi_f (fun q => q6 (bn_one.mpr q))).symm) rfl
  · refine g_iconst (pc := 9) (v := 1) o dX3_has_9 (by decide) ?_
    refine g_goto (pc := 10) o 14 dX3_has_10 (by decide) ?_
    exact g_iret (pc := 14) o f dX3_has_14 rfl (by first | exact (bi_t (bn_one.mp q6)).symm | exact (bi_f (fun q => q6 (bn_one.mpr q))).symm) rfl

/-- an hour on one: asleep or not -/
def tir (t : Bool) (v : Int32) : Int32 := if t then (if v - 2 < 0 then 0 else v - 2) else (if 20 < v + 1 then 20 else v + 1)
def tireM (M : HM) (a w b : Nat) : HM := rowM M b 6 (fun j => tir (w.testBit j) (M a j))

set_option maxHeartbeats 2000000 in
set_option maxRecDepth 20000 in
theorem cX3tire {a w b : Nat} (hw : w < 2 ^ 31) (sa : shp a = (6, 6)) (sb : shp b = (6, 6)) (han : a < n) (hbn : b < n) : Ret Λ (d + 1) mX3_tire [.ref a, .int (nI w), .ref b] (n, M, Rf, Lg) none (n, tireM M a w b, Rf, Lg) 0 0 := by
  refine Ret.of rfl rfl rfl (fun κ o f hin => ?_)
  have loop : ∀ k c : Nat, c ≤ 6 → 6 < c + k → G (Λ, κ) 2 [some (.ref a), some (.int (nI w)), some (.ref b), some (.int (nI c))] [] (n, rowM M b c (fun j => tir (w.testBit j) (M a j)), Rf, Lg) 0 0 := by
    intro k
    induction k with
    | zero => intro c h1 h2; exact absurd h2 (by omega)
    | succ k ih =>
      intro c h1 h2
      refine g_iload_n (pc := 2) o 3 dX3_tire_2 rfl rfl ?_
      refine g_bipush (pc := 3) (v := 6) o dX3_tire_3 (by decide) ?_
      refine g_icmp_ge (pc := 5) o 47 dX3_tire_5 (by decide) (fun q5 => ?_) (fun q5 => ?_)
      · have e6 : c = 6 := by have := (le_N (a := 6) (b := c) (by decide) (by omega) rfl rfl).mp q5; omega
        subst e6
        exact g_vret (pc := 47) o f dX3_tire_47 rfl
      · have h6 : c < 6 := by have := mt (le_N (a := 6) (b := c) (by decide) (by omega) rfl rfl).mpr q5; omega
        refine g_aload_n (pc := 8) o 2 dX3_tire_8 rfl rfl ?_
        refine g_iload_n (pc := 9) o 3 dX3_tire_9 rfl rfl ?_
        refine g_iload_n (pc := 10) o 1 dX3_tire_10 rfl rfl ?_
        refine g_iload_n (pc := 11) o 3 dX3_tire_11 rfl rfl ?_
        refine g_S2i (pc := 12) o lkRX3_223 cmX3_has (cX3has hw (by omega)) rfl rfl ⟨Nat.le_refl _, Nat.le_refl _⟩ dX3_tire_12 ?_
        refine g_if_eq (pc := 15) o 30 dX3_tire_15 (by decide) (fun q15 => ?_) (fun q15 => ?_)
        · refine g_aload_n (pc := 30) o 0 dX3_tire_30 rfl rfl ?_
          refine g_iload_n (pc := 31) o 3 dX3_tire_31 rfl rfl ?_
          refine g_iald (pc := 32) o (c) (by first | assumption | rfl) (by first | assumption | omega) rfl (by omega) dX3_tire_32 ?_
          rw [rowM_at]
          refine g_iconst (pc := 33) (v := 1) o dX3_tire_33 (by decide) ?_
          refine g_iadd (pc := 34) o dX3_tire_34 ?_
          refine g_bipush (pc := 35) (v := 20) o dX3_tire_35 (by decide) ?_
          refine g_min (pc := 37) o lkRX3_166 rfl rfl ⟨Nat.le_refl _, Nat.le_refl _⟩ dX3_tire_37 ?_ st_min ini_math co_min
          refine g_iast (pc := 40) o (c) (by first | assumption | rfl) (by first | assumption | omega) rfl (by omega) dX3_tire_40 ?_
          refine g_incN (pc := 41) o (c) dX3_tire_41 rfl rfl ?_
          refine g_goto (pc := 44) o 2 dX3_tire_44 (by decide) ?_
          refine g_eq rfl rfl rfl (hp_M (rowM_s M b c _ ?_)) (ih (c + 1) (by omega) (by omega))
          first | (simp only [tir, bi_nz.mp q15, if_true]; done) | (simp only [tir, bi_z.mp q15]; rfl) | (simp [tir, bi_z.mp q15]; done)
        · refine g_aload_n (pc := 18) o 0 dX3_tire_18 rfl rfl ?_
          refine g_iload_n (pc := 19) o 3 dX3_tire_19 rfl rfl ?_
          refine g_iald (pc := 20) o (c) (by first | assumption | rfl) (by first | assumption | omega) rfl (by omega) dX3_tire_20 ?_
          rw [rowM_at]
          refine g_iconst (pc := 21) (v := 2) o dX3_tire_21 (by decide) ?_
          refine g_isub (pc := 22) o dX3_tire_22 ?_
          refine g_iconst (pc := 23) (v := 0) o dX3_tire_23 (by decide) ?_
          refine g_max (pc := 24) o lkRX3_226 rfl rfl ⟨Nat.le_refl _, Nat.le_refl _⟩ dX3_tire_24 ?_ st_max ini_math co_max
          refine g_goto (pc := 27) o 40 dX3_tire_27 (by decide) ?_
          refine g_iast (pc := 40) o (c) (by first | assumption | rfl) (by first | assumption | omega) rfl (by omega) dX3_tire_40 ?_
          refine g_incN (pc := 41) o (c) dX3_tire_41 rfl rfl ?_
          refine g_goto (pc := 44) o 2 dX3_tire_44 (by decide) ?_
          refine g_eq rfl rfl rfl (hp_M (rowM_s M b c _ ?_)) (ih (c + 1) (by omega) (by omega))
          first | (simp only [tir, bi_nz.mp q15, if_true]; done) | (simp only [tir, bi_z.mp q15]; rfl) | (simp [tir, bi_z.mp q15]; done)
  refine g_iconst (pc := 0) (v := 0) o dX3_tire_0 (by decide) ?_
  refine g_istore_n (pc := 1) o 3 dX3_tire_1 rfl rfl ?_
  exact g_eq rfl rfl rfl (hp_M (rowM_0 M b _).symm) (loop 7 0 (by omega) (by omega))
end M1
end
section
section M2
variable {Λ : PL} {d n : Nat} {M : HM} {Rf : HR} {Lg : HL}

def bcx (v : Int32) : Int32 :=
  let v1 := v - ((v.toUInt32 >>> ((1 : Int32).toUInt32 &&& Int32.toUInt32 31)).toInt32 &&& 1431655765)
  let v2 := (v1 &&& 858993459) + ((v1.toUInt32 >>> ((2 : Int32).toUInt32 &&& Int32.toUInt32 31)).toInt32 &&& 858993459)
  let v3 := (v2 + (v2.toUInt32 >>> ((4 : Int32).toUInt32 &&& Int32.toUInt32 31)).toInt32) &&& 252645135
  let v4 := v3 + (v3.toUInt32 >>> ((8 : Int32).toUInt32 &&& Int32.toUInt32 31)).toInt32
  let v5 := v4 + (v4.toUInt32 >>> ((16 : Int32).toUInt32 &&& Int32.toUInt32 31)).toInt32
  v5 &&& 63
theorem bcx_pop : ∀ w, w < 256 → bcx (nI w) = nI (pop w) := by decide +kernel

set_option maxHeartbeats 2000000 in
set_option maxRecDepth 20000 in
theorem cbc {w : Nat} (hw : w < 256) : Ret Λ (d) mJ6_bitCount_0f7a4 [.int (nI w)] (n, M, Rf, Lg) (some (.int (nI (pop w)))) (n, M, Rf, Lg) 0 0 := by
  refine Ret.of rfl rfl rfl (fun κ o f hin => ?_)
  refine g_iload_n (pc := 0) o 0 dJ6_bitCount_0f7a4_0 rfl rfl ?_
  refine g_iload_n (pc := 1) o 0 dJ6_bitCount_0f7a4_1 rfl rfl ?_
  refine g_iconst (pc := 2) (v := 1) o dJ6_bitCount_0f7a4_2 (by decide) ?_
  refine g_iushr (pc := 3) o dJ6_bitCount_0f7a4_3 ?_
  refine g_ldcw (pc := 4) o ctRJ6_265 dJ6_bitCount_0f7a4_4 ?_
  refine g_iand (pc := 7) o dJ6_bitCount_0f7a4_7 ?_
  refine g_isub (pc := 8) o dJ6_bitCount_0f7a4_8 ?_
  refine g_istore_n (pc := 9) o 0 dJ6_bitCount_0f7a4_9 rfl rfl ?_
  refine g_iload_n (pc := 10) o 0 dJ6_bitCount_0f7a4_10 rfl rfl ?_
  refine g_ldcw (pc := 11) o ctRJ6_266 dJ6_bitCount_0f7a4_11 ?_
  refine g_iand (pc := 14) o dJ6_bitCount_0f7a4_14 ?_
  refine g_iload_n (pc := 15) o 0 dJ6_bitCount_0f7a4_15 rfl rfl ?_
  refine g_iconst (pc := 16) (v := 2) o dJ6_bitCount_0f7a4_16 (by decide) ?_
  refine g_iushr (pc := 17) o dJ6_bitCount_0f7a4_17 ?_
  refine g_ldcw (pc := 18) o ctRJ6_266 dJ6_bitCount_0f7a4_18 ?_
  refine g_iand (pc := 21) o dJ6_bitCount_0f7a4_21 ?_
  refine g_iadd (pc := 22) o dJ6_bitCount_0f7a4_22 ?_
  refine g_istore_n (pc := 23) o 0 dJ6_bitCount_0f7a4_23 rfl rfl ?_
  refine g_iload_n (pc := 24) o 0 dJ6_bitCount_0f7a4_24 rfl rfl ?_
  refine g_iload_n (pc := 25) o 0 dJ6_bitCount_0f7a4_25 rfl rfl ?_
  refine g_iconst (pc := 26) (v := 4) o dJ6_bitCount_0f7a4_26 (by decide) ?_
  refine g_iushr (pc := 27) o dJ6_bitCount_0f7a4_27 ?_
  refine g_iadd (pc := 28) o dJ6_bitCount_0f7a4_28 ?_
  refine g_ldcw (pc := 29) o ctRJ6_267 dJ6_bitCount_0f7a4_29 ?_
  refine g_iand (pc := 32) o dJ6_bitCount_0f7a4_32 ?_
  refine g_istore_n (pc := 33) o 0 dJ6_bitCount_0f7a4_33 rfl rfl ?_
  refine g_iload_n (pc := 34) o 0 dJ6_bitCount_0f7a4_34 rfl rfl ?_
  refine g_iload_n (pc := 35) o 0 dJ6_bitCount_0f7a4_35 rfl rfl ?_
  refine g_bipush (pc := 36) (v := 8) o dJ6_bitCount_0f7a4_36 (by decide) ?_
  refine g_iushr (pc := 38) o dJ6_bitCount_0f7a4_38 ?_
  refine g_iadd (pc := 39) o dJ6_bitCount_0f7a4_39 ?_
  refine g_istore_n (pc := 40) o 0 dJ6_bitCount_0f7a4_40 rfl rfl ?_
  refine g_iload_n (pc := 41) o 0 dJ6_bitCount_0f7a4_41 rfl rfl ?_
  refine g_iload_n (pc := 42) o 0 dJ6_bitCount_0f7a4_42 rfl rfl ?_
  refine g_bipush (pc := 43) (v := 16) o dJ6_bitCount_0f7a4_43 (by decide) ?_
  refine g_iushr (pc := 45) o dJ6_bitCount_0f7a4_45 ?_
  refine g_iadd (pc := 46) o dJ6_bitCount_0f7a4_46 ?_
  refine g_istore_n (pc := 47) o 0 dJ6_bitCount_0f7a4_47 rfl rfl ?_
  refine g_iload_n (pc := 48) o 0 dJ6_bitCount_0f7a4_48 rfl rfl ?_
  refine g_bipush (pc := 49) (v := 63) o dJ6_bitCount_0f7a4_49 (by decide) ?_
  refine g_iand (pc := 51) o dJ6_bitCount_0f7a4_51 ?_
  exact g_iret (pc := 52) o f dJ6_bitCount_0f7a4_52 rfl (bcx_pop w hw) rfl

set_option maxHeartbeats 2000000 in
set_option maxRecDepth 20000 in
theorem cX4ones {w : Nat} (hw : w < 2 ^ 31) : Ret Λ (d) mX4_ones [.int (nI w)] (n, M, Rf, Lg) (some (.int (nI (pop w)))) (n, M, Rf, Lg) 0 0 := by
  refine Ret.of rfl rfl rfl (fun κ o f hin => ?_)
  have loop : ∀ k c : Nat, c ≤ 8 → 8 < c + k → G (Λ, κ) 4 [some (.int (nI w)), some (.int (nI (popn c w))), some (.int (nI c))] [] (n, M, Rf, Lg) 0 0 := by
    intro k
    induction k with
    | zero => intro c h1 h2; exact absurd h2 (by omega)
    | succ k ih =>
      intro c h1 h2
      refine g_iload_n (pc := 4) o 2 dX4_ones_4 rfl rfl ?_
      refine g_bipush (pc := 5) (v := 8) o dX4_ones_5 (by decide) ?_
      refine g_icmp_ge (pc := 7) o 24 dX4_ones_7 (by decide) (fun q7 => ?_) (fun q7 => ?_)
      · have ec : c = 8 := by have := (le_N (a := 8) (b := c) (by omega) (by omega) rfl rfl).mp q7; omega
        refine g_iload_n (pc := 24) o 1 dX4_ones_24 rfl rfl ?_
        exact g_iret (pc := 25) o f dX4_ones_25 rfl (by rw [ec]; rfl) rfl
      · have hc1 : c < 8 := by have := mt (le_N (a := 8) (b := c) (by omega) (by omega) rfl rfl).mpr q7; omega
        refine g_iload_n (pc := 10) o 1 dX4_ones_10 rfl rfl ?_
        refine g_iload_n (pc := 11) o 0 dX4_ones_11 rfl rfl ?_
        refine g_iload_n (pc := 12) o 2 dX4_ones_12 rfl rfl ?_
        refine g_ishr (pc := 13) o dX4_ones_13 ?_
        refine g_iconst (pc := 14) (v := 1) o dX4_ones_14 (by decide) ?_
        refine g_iand (pc := 15) o dX4_ones_15 ?_
        rw [n_bit hw (by omega)]
        refine g_iadd (pc := 16) o dX4_ones_16 ?_
        rw [nI_add]
        refine g_istore_n (pc := 17) o 1 dX4_ones_17 rfl rfl ?_
        refine g_incN (pc := 18) o (c) dX4_ones_18 rfl rfl ?_
        refine g_goto (pc := 21) o 4 dX4_ones_21 (by decide) ?_
        exact ih (c + 1) (by omega) (by omega)
  refine g_iconst (pc := 0) (v := 0) o dX4_ones_0 (by decide) ?_
  refine g_istore_n (pc := 1) o 1 dX4_ones_1 rfl rfl ?_
  refine g_iconst (pc := 2) (v := 0) o dX4_ones_2 (by decide) ?_
  refine g_istore_n (pc := 3) o 2 dX4_ones_3 rfl rfl ?_
  exact loop 9 0 (by omega) (by omega)

set_option maxHeartbeats 2000000 in
set_option maxRecDepth 20000 in
theorem cX0noisesOf {c0 : Nat} {T : Nat → Nat} (hc : c0 = 4 ∨ c0 = 16) (hn : 96 ≤ n) (rc : RCi Rf c0) (ht : okT T) (hm : cyT M c0 T) {hh : Nat} (hh8 : hh < 8) : Ret Λ (d) mX0_noisesOf [.ref c0, .int (nI hh)] (n, M, Rf, Lg) (some (.int (nI (nsO T hh)))) (n, M, Rf, Lg) 0 0 := by
  refine Ret.of rfl rfl rfl (fun κ o f hin => ?_)
  obtain ⟨r3, r4, r6, r7, r8, r9, r11, r12, r13, r14, r15⟩ := rc
  obtain ⟨z0, z1, z2, z3, z4, z5, z6, z7, z8, z9, z10, z11⟩ := city_shp hc
  obtain ⟨⟨t0, t0b⟩, t1, t2, t3, tD, tC, tN⟩ := ht
  obtain ⟨m0, m1, m5, m10, mb, mj, mc, mn, ml⟩ := hm
  have loop : ∀ k c : Nat, c ≤ T 3 → T 3 < c + k → G (Λ, κ) 4 [some (.ref c0), some (.int (nI hh)), some (.int (nI (mk (fun i => T (44 + i) == hh) c))), some (.int (nI c))] [] (n, M, Rf, Lg) 0 0 := by
    intro k
    induction k with
    | zero => intro c h1 h2; exact absurd h2 (by omega)
    | succ k ih =>
      intro c h1 h2
      refine g_iload_n (pc := 4) o 3 dX0_noisesOf_4 rfl rfl ?_
      refine g_aload_n (pc := 5) o 0 dX0_noisesOf_5 rfl rfl ?_
      refine g_getI (pc := 6) o flRX0_59 (by first | assumption | rfl) (by first | assumption | omega) dX0_noisesOf_6 ?_
      refine g_icmp_ge (pc := 9) o 34 dX0_noisesOf_9 (by decide) (fun q9 => ?_) (fun q9 => ?_)
      · have ec : c = T 3 := by have := (le_N (a := T 3) (b := c) (by omega) (by omega) m10 rfl).mp q9; omega
        refine g_iload_n (pc := 34) o 2 dX0_noisesOf_34 rfl rfl ?_
        exact g_iret (pc := 35) o f dX0_noisesOf_35 rfl (by rw [ec]; rfl) rfl
      · have hc1 : c < T 3 := by have := mt (le_N (a := T 3) (b := c) (by omega) (by omega) m10 rfl).mpr q9; omega
        refine g_aload_n (pc := 12) o 0 dX0_noisesOf_12 rfl rfl ?_
        refine g_getR (pc := 13) o flRX0_33 (by first | assumption | rfl) (by first | assumption | omega) (by assumption) dX0_noisesOf_13 ?_
        refine g_iload_n (pc := 16) o 3 dX0_noisesOf_16 rfl rfl ?_
        refine g_iald (pc := 17) o (c) (by first | assumption | rfl) (by first | assumption | omega) rfl (by omega) dX0_noisesOf_17 ?_
        have hx := tN c hc1
        rw [(mn c hc1).2.1]
        refine g_iload_n (pc := 18) o 1 dX0_noisesOf_18 rfl rfl ?_
        refine g_icmp_ne (pc := 19) o 28 dX0_noisesOf_19 (by decide) (fun q19 => ?_) (fun q19 => ?_)
        · have e1 : mk (fun i => T (44 + i) == hh) (c + 1) = mk (fun i => T (44 + i) == hh) c := mk_f (by have := mt (eq_N (by omega) (by omega) rfl rfl).mpr q19; simpa using this)
          refine g_incN (pc := 28) o (c) dX0_noisesOf_28 rfl rfl ?_
          refine g_goto (pc := 31) o 4 dX0_noisesOf_31 (by decide) ?_
          first | exact ih (c + 1) (by omega) (by omega) | (rw [← e1]; exact ih (c + 1) (by omega) (by omega))
        · have e1 := mk_t (p := fun i => T (44 + i) == hh) (n := c) (by have := (eq_N (by omega) (by omega) rfl rfl).mp q19; simpa using this) (by omega)
          refine g_iload_n (pc := 22) o 2 dX0_noisesOf_22 rfl rfl ?_
          refine g_iconst (pc := 23) (v := 1) o dX0_noisesOf_23 (by decide) ?_
          refine g_iload_n (pc := 24) o 3 dX0_noisesOf_24 rfl rfl ?_
          refine g_ishl (pc := 25) o dX0_noisesOf_25 ?_
          refine g_ior (pc := 26) o dX0_noisesOf_26 ?_
          rw [e1]
          refine g_istore_n (pc := 27) o 2 dX0_noisesOf_27 rfl rfl ?_
          refine g_incN (pc := 28) o (c) dX0_noisesOf_28 rfl rfl ?_
          refine g_goto (pc := 31) o 4 dX0_noisesOf_31 (by decide) ?_
          first | exact ih (c + 1) (by omega) (by omega) | (rw [← e1]; exact ih (c + 1) (by omega) (by omega))
  refine g_iconst (pc := 0) (v := 0) o dX0_noisesOf_0 (by decide) ?_
  refine g_istore_n (pc := 1) o 2 dX0_noisesOf_1 rfl rfl ?_
  refine g_iconst (pc := 2) (v := 0) o dX0_noisesOf_2 (by decide) ?_
  refine g_istore_n (pc := 3) o 3 dX0_noisesOf_3 rfl rfl ?_
  exact loop (T 3 + 1) 0 (by omega) (by omega)

set_option maxHeartbeats 2000000 in
set_option maxRecDepth 20000 in
theorem cX0wokenBy {c0 : Nat} {T : Nat → Nat} (hc : c0 = 4 ∨ c0 = 16) (hn : 96 ≤ n) (rc : RCi Rf c0) (ht : okT T) (hm : cyT M c0 T) {dd vv : Nat} (hd : dd < 2147483648) (hv : vv < 2147483648) : Ret Λ (d) mX0_wokenBy [.ref c0, .int (nI dd), .int (nI vv)] (n, M, Rf, Lg) (some (.int (nI (wkB T dd vv)))) (n, M, Rf, Lg) 0 0 := by
  refine Ret.of rfl rfl rfl (fun κ o f hin => ?_)
  obtain ⟨r3, r4, r6, r7, r8, r9, r11, r12, r13, r14, r15⟩ := rc
  obtain ⟨z0, z1, z2, z3, z4, z5, z6, z7, z8, z9, z10, z11⟩ := city_shp hc
  obtain ⟨⟨t0, t0b⟩, t1, t2, t3, tD, tC, tN⟩ := ht
  obtain ⟨m0, m1, m5, m10, mb, mj, mc, mn, ml⟩ := hm
  have loop : ∀ k c : Nat, c ≤ T 2 → T 2 < c + k → G (Λ, κ) 5 [some (.ref c0), some (.int (nI dd)), some (.int (nI vv)), some (.int (nI (mk (fun i => T (14 + i) == dd && decide (T (32 + i) < vv)) c))), some (.int (nI c))] [] (n, M, Rf, Lg) 0 0 := by
    intro k
    induction k with
    | zero => intro c h1 h2; exact absurd h2 (by omega)
    | succ k ih =>
      intro c h1 h2
      refine g_iload (pc := 5) o dX0_wokenBy_5 rfl ?_
      refine g_aload_n (pc := 7) o 0 dX0_wokenBy_7 rfl rfl ?_
      refine g_getI (pc := 8) o flRX0_56 (by first | assumption | rfl) (by first | assumption | omega) dX0_wokenBy_8 ?_
      refine g_icmp_ge (pc := 11) o 49 dX0_wokenBy_11 (by decide) (fun q11 => ?_) (fun q11 => ?_)
      · have ec : c = T 2 := by have := (le_N (a := T 2) (b := c) (by omega) (by omega) m5 rfl).mp q11; omega
        refine g_iload_n (pc := 49) o 3 dX0_wokenBy_49 rfl rfl ?_
        exact g_iret (pc := 50) o f dX0_wokenBy_50 rfl (by rw [ec]; rfl) rfl
      · have hc1 : c < T 2 := by have := mt (le_N (a := T 2) (b := c) (by omega) (by omega) m5 rfl).mpr q11; omega
        refine g_aload_n (pc := 14) o 0 dX0_wokenBy_14 rfl rfl ?_
        refine g_getR (pc := 15) o flRX0_18 (by first | assumption | rfl) (by first | assumption | omega) (by assumption) dX0_wokenBy_15 ?_
        refine g_iload (pc := 18) o dX0_wokenBy_18 rfl ?_
        refine g_iald (pc := 20) o (c) (by first | assumption | rfl) (by first | assumption | omega) rfl (by omega) dX0_wokenBy_20 ?_
        have hx := tC c hc1
        rw [(mc c hc1).1]
        refine g_iload_n (pc := 21) o 1 dX0_wokenBy_21 rfl rfl ?_
        refine g_icmp_ne (pc := 22) o 43 dX0_wokenBy_22 (by decide) (fun q22 => ?_) (fun q22 => ?_)
        · have e1 : mk (fun i => T (14 + i) == dd && decide (T (32 + i) < vv)) (c + 1) = mk (fun i => T (14 + i) == dd && decide (T (32 + i) < vv)) c := mk_f (by simp; intro q; exact absurd q (mt (eq_N (by omega) (by omega) rfl rfl).mpr q22))
          refine g_incN (pc := 43) o (c) dX0_wokenBy_43 rfl rfl ?_
          refine g_goto (pc := 46) o 5 dX0_wokenBy_46 (by decide) ?_
          first | exact ih (c + 1) (by omega) (by omega) | (rw [← e1]; exact ih (c + 1) (by omega) (by omega))
        · have g1 := (eq_N (by omega) (by omega) rfl rfl).mp q22
          refine g_aload_n (pc := 25) o 0 dX0_wokenBy_25 rfl rfl ?_
          refine g_getR (pc := 26) o flRX0_27 (by first | assumption | rfl) (by first | assumption | omega) (by assumption) dX0_wokenBy_26 ?_
          refine g_iload (pc := 29) o dX0_wokenBy_29 rfl ?_
          refine g_iald (pc := 31) o (c) (by first | assumption | rfl) (by first | assumption | omega) rfl (by omega) dX0_wokenBy_31 ?_
          rw [(mc c hc1).2.2.2]
          refine g_iload_n (pc := 32) o 2 dX0_wokenBy_32 rfl rfl ?_
          refine g_icmp_ge (pc := 33) o 43 dX0_wokenBy_33 (by decide) (fun q33 => ?_) (fun q33 => ?_)
          · have e1 : mk (fun i => T (14 + i) == dd && decide (T (32 + i) < vv)) (c + 1) = mk (fun i => T (14 + i) == dd && decide (T (32 + i) < vv)) c := mk_f (by simp; intro _; exact (le_N (by omega) (by omega) rfl rfl).mp q33)
            refine g_incN (pc := 43) o (c) dX0_wokenBy_43 rfl rfl ?_
            refine g_goto (pc := 46) o 5 dX0_wokenBy_46 (by decide) ?_
            first | exact ih (c + 1) (by omega) (by omega) | (rw [← e1]; exact ih (c + 1) (by omega) (by omega))
          · have e1 := mk_t (p := (fun i => T (14 + i) == dd && decide (T (32 + i) < vv))) (n := c) (by have g2 := mt (le_N (by omega) (by omega) rfl rfl).mpr q33; simp [g1]; omega) (by omega)
            refine g_iload_n (pc := 36) o 3 dX0_wokenBy_36 rfl rfl ?_
            refine g_iconst (pc := 37) (v := 1) o dX0_wokenBy_37 (by decide) ?_
            refine g_iload (pc := 38) o dX0_wokenBy_38 rfl ?_
            refine g_ishl (pc := 40) o dX0_wokenBy_40 ?_
            refine g_ior (pc := 41) o dX0_wokenBy_41 ?_
            rw [e1]
            refine g_istore_n (pc := 42) o 3 dX0_wokenBy_42 rfl rfl ?_
            refine g_incN (pc := 43) o (c) dX0_wokenBy_43 rfl rfl ?_
            refine g_goto (pc := 46) o 5 dX0_wokenBy_46 (by decide) ?_
            first | exact ih (c + 1) (by omega) (by omega) | (rw [← e1]; exact ih (c + 1) (by omega) (by omega))
  refine g_iconst (pc := 0) (v := 0) o dX0_wokenBy_0 (by decide) ?_
  refine g_istore_n (pc := 1) o 3 dX0_wokenBy_1 rfl rfl ?_
  refine g_iconst (pc := 2) (v := 0) o dX0_wokenBy_2 (by decide) ?_
  refine g_istore (pc := 3) o dX0_wokenBy_3 rfl ?_
  exact loop (T 2 + 1) 0 (by omega) (by omega)
end M2
end
section
section M3
variable {Λ : PL} {d n : Nat} {M : HM} {Rf : HR} {Lg : HL}

theorem n_min {a b : Nat} (ha : a < 2147483648) (hb : b < 2147483648) : (if nI b < nI a then nI b else nI a) = nI (min a b) := by
  by_cases h : b < a
  · rw [if_pos ((lt_N hb ha rfl rfl).mpr h), Nat.min_eq_right (Nat.le_of_lt h)]
  · rw [if_neg (fun q => h ((lt_N hb ha rfl rfl).mp q)), Nat.min_eq_left (Nat.not_lt.mp h)]
/-- how many of a set there are beds for, in the first k districts -/
def bedN (T : Nat → Nat) (w : Nat) : Nat → Nat
  | 0 => 0
  | k + 1 => bedN T w k + min (pop (w &&& liv T k)) (T (10 + k))
theorem bedN_le (T : Nat → Nat) (w k : Nat) : bedN T w k ≤ 8 * k := by
  induction k with
  | zero => exact Nat.le_refl _
  | succ k ih =>
    have h1 := pop_le (w &&& liv T k)
    have h2 : min (pop (w &&& liv T k)) (T (10 + k)) ≤ pop (w &&& liv T k) := Nat.min_le_left _ _
    show bedN T w k + min (pop (w &&& liv T k)) (T (10 + k)) ≤ 8 * (k + 1)
    omega
/-- who could lie down -/
def cou (T S : Nat → Nat) (i : Nat) : Bool := ((S (9 + i)).testBit (S 1) && !(T (26 + i)).testBit (S 1)) && decide (0 < S (3 + i))
/-- who lies down of the first n: those that could, in their order, while there are beds -/
def lieL (T : Nat → Nat) (cd : Nat → Bool) : Nat → Nat
  | 0 => 0
  | n + 1 => lieL T cd n ||| (if (cd n && decide (pop (lieL T cd n &&& liv T (T (14 + n))) < T (10 + T (14 + n)))) = true then 2 ^ n else 0)
theorem lieL_lt (T : Nat → Nat) (cd : Nat → Bool) (n : Nat) : lieL T cd n < 2 ^ n := by
  induction n with
  | zero => exact Nat.one_pos
  | succ n ih =>
    have h2 : 2 ^ n < 2 ^ (n + 1) := Nat.pow_lt_pow_right (by decide) (Nat.lt_succ_self n)
    exact Nat.or_lt_two_pow (Nat.lt_trans ih h2) (by split <;> first | exact h2 | exact Nat.two_pow_pos _)
theorem lieL6 (T : Nat → Nat) (cd : Nat → Bool) {n : Nat} (h : n ≤ 6) : lieL T cd n < 64 := Nat.lt_of_lt_of_le (lieL_lt T cd n) (Nat.pow_le_pow_right (n := 2) (by decide) h)
theorem lieL_f {T : Nat → Nat} {cd : Nat → Bool} {n : Nat} (h : (cd n && decide (pop (lieL T cd n &&& liv T (T (14 + n))) < T (10 + T (14 + n)))) = false) : lieL T cd (n + 1) = lieL T cd n := by
  show lieL T cd n ||| _ = _
  rw [h]; simp
theorem lieL_t {T : Nat → Nat} {cd : Nat → Bool} {n : Nat} (h : (cd n && decide (pop (lieL T cd n &&& liv T (T (14 + n))) < T (10 + T (14 + n)))) = true) (hn : n < 32) : nI (lieL T cd n) ||| ((1 : Int32) <<< (nI n &&& 31)) = nI (lieL T cd (n + 1)) := by
  rw [n_one hn, n_or]
  show _ = nI (lieL T cd n ||| _)
  rw [h]; rfl
theorem liv6 {T : Nat → Nat} (h : T 2 ≤ 6) (d : Nat) : liv T d < 64 := mk6 _ h
theorem and6 {a b : Nat} (h : b < 64) : a &&& b < 64 := Nat.and_lt_two_pow (n := 6) a h
def lie (T : Nat → Nat) (cd : Nat → Bool) : Nat := lieL T cd (T 2)
def slp (T S : Nat → Nat) (cd : Nat → Bool) : Nat := lie T cd &&& rst T (S 1)
theorem slp6 {T S : Nat → Nat} {cd : Nat → Bool} (h : T 2 ≤ 6) : slp T S cd < 64 := Nat.lt_of_le_of_lt Nat.and_le_left (lieL6 T cd h)

theorem ts_nt9 {b : Bool} (h : ¬ b = true) : b = false := by cases b <;> simp_all
theorem mk_none (n : Nat) : mk (fun _ => false) n = 0 := by
  induction n with
  | zero => rfl
  | succ n ih => rw [mk_f rfl, ih]

set_option maxHeartbeats 2000000 in
set_option maxRecDepth 20000 in
theorem cX0wokenByAll {c0 : Nat} {T : Nat → Nat} (hc : c0 = 4 ∨ c0 = 16) (hn : 96 ≤ n) (rc : RCi Rf c0) (ht : okT T) (hm : cyT M c0 T) {w : Nat} (hw : w < 2 ^ 31) : Ret Λ (d + 1) mX0_wokenByAll [.ref c0, .int (nI w)] (n, M, Rf, Lg) (some (.int (nI (wkA T w)))) (n, M, Rf, Lg) 0 0 := by
  refine Ret.of rfl rfl rfl (fun κ o f hin => ?_)
  obtain ⟨r3, r4, r6, r7, r8, r9, r11, r12, r13, r14, r15⟩ := id rc
  obtain ⟨z0, z1, z2, z3, z4, z5, z6, z7, z8, z9, z10, z11⟩ := city_shp hc
  obtain ⟨⟨t0, t0b⟩, t1, t2, t3, tD, tC, tN⟩ := id ht
  obtain ⟨m0, m1, m5, m10, mb, mj, mc, mn, ml⟩ := id hm
  have loop : ∀ k c : Nat, c ≤ T 3 → T 3 < c + k → G (Λ, κ) 4 [some (.ref c0), some (.int (nI w)), some (.int (nI (mk (fun i => wkP T w i c) (T 2)))), some (.int (nI c))] [] (n, M, Rf, Lg) 0 0 := by
    intro k
    induction k with
    | zero => intro c h1 h2; exact absurd h2 (by omega)
    | succ k ih =>
      intro c h1 h2
      refine g_iload_n (pc := 4) o 3 dX0_wokenByAll_4 rfl rfl ?_
      refine g_aload_n (pc := 5) o 0 dX0_wokenByAll_5 rfl rfl ?_
      refine g_getI (pc := 6) o flRX0_59 (by first | assumption | rfl) (by first | assumption | omega) dX0_wokenByAll_6 ?_
      refine g_icmp_ge (pc := 9) o 45 dX0_wokenByAll_9 (by decide) (fun q9 => ?_) (fun q9 => ?_)
      · have ec : c = T 3 := by have := (le_N (a := T 3) (b := c) (by omega) (by omega) m10 rfl).mp q9; omega
        refine g_iload_n (pc := 45) o 2 dX0_wokenByAll_45 rfl rfl ?_
        exact g_iret (pc := 46) o f dX0_wokenByAll_46 rfl (by rw [ec]; rfl) rfl
      · have hc1 : c < T 3 := by have := mt (le_N (a := T 3) (b := c) (by omega) (by omega) m10 rfl).mpr q9; omega
        have hx := tN c hc1
        refine g_iload_n (pc := 12) o 1 dX0_wokenByAll_12 rfl rfl ?_
        refine g_iload_n (pc := 13) o 3 dX0_wokenByAll_13 rfl rfl ?_
        refine g_SN2i (pc := 14) o lkRX0_69 cmX3_has (cX3has hw (by omega)) rfl rfl ⟨Nat.le_refl _, Nat.le_refl _⟩ dX0_wokenByAll_14 ?_
        refine g_if_eq (pc := 17) o 39 dX0_wokenByAll_17 (by decide) (fun q17 => ?_) (fun q17 => ?_)
        · have e1 : mk (fun i => wkP T w i (c + 1)) (T 2) = mk (fun i => wkP T w i c) (T 2) := mk_congr (fun i _ => by show (wkP T w i c || _) = _; rw [ts_nt9 (bi_z.mp q17)]; simp)
          refine g_incN (pc := 39) o (c) dX0_wokenByAll_39 rfl rfl ?_
          refine g_goto (pc := 42) o 4 dX0_wokenByAll_42 (by decide) ?_
          first | exact ih (c + 1) (by omega) (by omega) | (rw [← e1]; exact ih (c + 1) (by omega) (by omega))
        · have e1 : nI (mk (fun i => wkP T w i c) (T 2)) ||| nI (wkB T (T (38 + c)) (T (50 + c))) = nI (mk (fun i => wkP T w i (c + 1)) (T 2)) := by
            rw [n_or]; unfold wkB; rw [mk_or]; exact congrArg nI (mk_congr (fun i _ => by show _ = (wkP T w i c || _); rw [bi_nz.mp q17]; simp))
          refine g_iload_n (pc := 20) o 2 dX0_wokenByAll_20 rfl rfl ?_
          refine g_aload_n (pc := 21) o 0 dX0_wokenByAll_21 rfl rfl ?_
          refine g_aload_n (pc := 22) o 0 dX0_wokenByAll_22 rfl rfl ?_
          refine g_getR (pc := 23) o flRX0_30 (by first | assumption | rfl) (by first | assumption | omega) (by assumption) dX0_wokenByAll_23 ?_
          refine g_iload_n (pc := 26) o 3 dX0_wokenByAll_26 rfl rfl ?_
          refine g_iald (pc := 27) o (c) (by first | assumption | rfl) (by first | assumption | omega) rfl (by omega) dX0_wokenByAll_27 ?_
          rw [(mn c hc1).1]
          refine g_aload_n (pc := 28) o 0 dX0_wokenByAll_28 rfl rfl ?_
          refine g_getR (pc := 29) o flRX0_36 (by first | assumption | rfl) (by first | assumption | omega) (by assumption) dX0_wokenByAll_29 ?_
          refine g_iload_n (pc := 32) o 3 dX0_wokenByAll_32 rfl rfl ?_
          refine g_iald (pc := 33) o (c) (by first | assumption | rfl) (by first | assumption | omega) rfl (by omega) dX0_wokenByAll_33 ?_
          rw [(mn c hc1).2.2]
          refine g_V2i (pc := 34) o lkRX0_110 cmX0_wokenBy (cX0wokenBy hc hn rc ht hm (dd := T (38 + c)) (vv := T (50 + c)) (by omega) (by omega)) (by first | assumption | rfl) (by first | assumption | omega) rfl rfl ⟨Nat.le_refl _, Nat.le_refl _⟩ dX0_wokenByAll_34 ?_
          refine g_ior (pc := 37) o dX0_wokenByAll_37 ?_
          rw [e1]
          refine g_istore_n (pc := 38) o 2 dX0_wokenByAll_38 rfl rfl ?_
          refine g_incN (pc := 39) o (c) dX0_wokenByAll_39 rfl rfl ?_
          refine g_goto (pc := 42) o 4 dX0_wokenByAll_42 (by decide) ?_
          first | exact ih (c + 1) (by omega) (by omega) | (rw [← e1]; exact ih (c + 1) (by omega) (by omega))
  refine g_iconst (pc := 0) (v := 0) o dX0_wokenByAll_0 (by decide) ?_
  refine g_istore_n (pc := 1) o 2 dX0_wokenByAll_1 rfl rfl ?_
  refine g_iconst (pc := 2) (v := 0) o dX0_wokenByAll_2 (by decide) ?_
  refine g_istore_n (pc := 3) o 3 dX0_wokenByAll_3 rfl rfl ?_
  refine g_eq rfl ?_ rfl rfl (loop (T 3 + 1) 0 (by omega) (by omega))
  rw [show mk (fun i => wkP T w i 0) (T 2) = 0 from mk_none (T 2)]; rfl

set_option maxHeartbeats 2000000 in
set_option maxRecDepth 20000 in
theorem cX0tiredOf {c0 : Nat} {T : Nat → Nat} (hc : c0 = 4 ∨ c0 = 16) (hn : 96 ≤ n) (rc : RCi Rf c0) (ht : okT T) (hm : cyT M c0 T) {a : Nat} {tr : Nat → Nat} (sa : shp a = (6, 6)) (han : a < n) (hr : ∀ i, i < T 2 → M a i = nI (tr i) ∧ tr i ≤ 1000) : Ret Λ (d) mX0_tiredOf [.ref c0, .ref a] (n, M, Rf, Lg) (some (.int (nI (mk (fun i => decide (0 < tr i)) (T 2))))) (n, M, Rf, Lg) 0 0 := by
  refine Ret.of rfl rfl rfl (fun κ o f hin => ?_)
  obtain ⟨r3, r4, r6, r7, r8, r9, r11, r12, r13, r14, r15⟩ := rc
  obtain ⟨z0, z1, z2, z3, z4, z5, z6, z7, z8, z9, z10, z11⟩ := city_shp hc
  obtain ⟨⟨t0, t0b⟩, t1, t2, t3, tD, tC, tN⟩ := ht
  obtain ⟨m0, m1, m5, m10, mb, mj, mc, mn, ml⟩ := hm
  have loop : ∀ k c : Nat, c ≤ T 2 → T 2 < c + k → G (Λ, κ) 4 [some (.ref c0), some (.ref a), some (.int (nI (mk (fun i => decide (0 < tr i)) c))), some (.int (nI c))] [] (n, M, Rf, Lg) 0 0 := by
    intro k
    induction k with
    | zero => intro c h1 h2; exact absurd h2 (by omega)
    | succ k ih =>
      intro c h1 h2
      refine g_iload_n (pc := 4) o 3 dX0_tiredOf_4 rfl rfl ?_
      refine g_aload_n (pc := 5) o 0 dX0_tiredOf_5 rfl rfl ?_
      refine g_getI (pc := 6) o flRX0_56 (by first | assumption | rfl) (by first | assumption | omega) dX0_tiredOf_6 ?_
      refine g_icmp_ge (pc := 9) o 30 dX0_tiredOf_9 (by decide) (fun q9 => ?_) (fun q9 => ?_)
      · have ec : c = T 2 := by have := (le_N (a := T 2) (b := c) (by omega) (by omega) m5 rfl).mp q9; omega
        refine g_iload_n (pc := 30) o 2 dX0_tiredOf_30 rfl rfl ?_
        exact g_iret (pc := 31) o f dX0_tiredOf_31 rfl (by rw [ec]) rfl
      · have hc1 : c < T 2 := by have := mt (le_N (a := T 2) (b := c) (by omega) (by omega) m5 rfl).mpr q9; omega
        refine g_aload_n (pc := 12) o 1 dX0_tiredOf_12 rfl rfl ?_
        refine g_iload_n (pc := 13) o 3 dX0_tiredOf_13 rfl rfl ?_
        refine g_iald (pc := 14) o (c) (by first | assumption | rfl) (by first | assumption | omega) rfl (by omega) dX0_tiredOf_14 ?_
        rw [(hr c hc1).1]
        refine g_if_le (pc := 15) o 24 dX0_tiredOf_15 (by decide) (fun q15 => ?_) (fun q15 => ?_)
        · have e1 : mk (fun i => decide (0 < tr i)) (c + 1) = mk (fun i => decide (0 < tr i)) c := mk_f (by have := (le_N (b := 0) (by have := (hr c hc1).2; omega) (by decide) rfl rfl).mp q15; simpa using this)
          refine g_incN (pc := 24) o (c) dX0_tiredOf_24 rfl rfl ?_
          refine g_goto (pc := 27) o 4 dX0_tiredOf_27 (by decide) ?_
          first | exact ih (c + 1) (by omega) (by omega) | (rw [← e1]; exact ih (c + 1) (by omega) (by omega))
        · have e1 := mk_t (p := (fun i => decide (0 < tr i))) (n := c) (by have := mt (le_N (b := 0) (by have := (hr c hc1).2; omega) (by decide) rfl rfl).mpr q15; simp; omega) (by omega)
          refine g_iload_n (pc := 18) o 2 dX0_tiredOf_18 rfl rfl ?_
          refine g_iconst (pc := 19) (v := 1) o dX0_tiredOf_19 (by decide) ?_
          refine g_iload_n (pc := 20) o 3 dX0_tiredOf_20 rfl rfl ?_
          refine g_ishl (pc := 21) o dX0_tiredOf_21 ?_
          refine g_ior (pc := 22) o dX0_tiredOf_22 ?_
          rw [e1]
          refine g_istore_n (pc := 23) o 2 dX0_tiredOf_23 rfl rfl ?_
          refine g_incN (pc := 24) o (c) dX0_tiredOf_24 rfl rfl ?_
          refine g_goto (pc := 27) o 4 dX0_tiredOf_27 (by decide) ?_
          first | exact ih (c + 1) (by omega) (by omega) | (rw [← e1]; exact ih (c + 1) (by omega) (by omega))
  refine g_iconst (pc := 0) (v := 0) o dX0_tiredOf_0 (by decide) ?_
  refine g_istore_n (pc := 1) o 2 dX0_tiredOf_1 rfl rfl ?_
  refine g_iconst (pc := 2) (v := 0) o dX0_tiredOf_2 (by decide) ?_
  refine g_istore_n (pc := 3) o 3 dX0_tiredOf_3 rfl rfl ?_
  exact loop (T 2 + 1) 0 (by omega) (by omega)

set_option maxHeartbeats 2000000 in
set_option maxRecDepth 20000 in
theorem cX0bedded {c0 : Nat} {T : Nat → Nat} (hc : c0 = 4 ∨ c0 = 16) (hn : 96 ≤ n) (rc : RCi Rf c0) (ht : okT T) (hm : cyT M c0 T) {w : Nat} : Ret Λ (d + 1) mX0_bedded [.ref c0, .int (nI w)] (n, M, Rf, Lg) (some (.int (nI (bedN T w (T 0))))) (n, M, Rf, Lg) 0 0 := by
  refine Ret.of rfl rfl rfl (fun κ o f hin => ?_)
  obtain ⟨r3, r4, r6, r7, r8, r9, r11, r12, r13, r14, r15⟩ := rc
  obtain ⟨z0, z1, z2, z3, z4, z5, z6, z7, z8, z9, z10, z11⟩ := city_shp hc
  obtain ⟨⟨t0, t0b⟩, t1, t2, t3, tD, tC, tN⟩ := ht
  obtain ⟨m0, m1, m5, m10, mb, mj, mc, mn, ml⟩ := hm
  have loop : ∀ k c : Nat, c ≤ T 0 → T 0 < c + k → G (Λ, κ) 4 [some (.ref c0), some (.int (nI w)), some (.int (nI (bedN T w c))), some (.int (nI c))] [] (n, M, Rf, Lg) 0 0 := by
    intro k
    induction k with
    | zero => intro c h1 h2; exact absurd h2 (by omega)
    | succ k ih =>
      intro c h1 h2
      refine g_iload_n (pc := 4) o 3 dX0_bedded_4 rfl rfl ?_
      refine g_aload_n (pc := 5) o 0 dX0_bedded_5 rfl rfl ?_
      refine g_getI (pc := 6) o flRX0_45 (by first | assumption | rfl) (by first | assumption | omega) dX0_bedded_6 ?_
      refine g_icmp_ge (pc := 9) o 41 dX0_bedded_9 (by decide) (fun q9 => ?_) (fun q9 => ?_)
      · have ec : c = T 0 := by have := (le_N (a := T 0) (b := c) (by omega) (by omega) m0 rfl).mp q9; omega
        refine g_iload_n (pc := 41) o 2 dX0_bedded_41 rfl rfl ?_
        exact g_iret (pc := 42) o f dX0_bedded_42 rfl (by rw [ec]) rfl
      · have hc1 : c < T 0 := by have := mt (le_N (a := T 0) (b := c) (by omega) (by omega) m0 rfl).mpr q9; omega
        refine g_iload_n (pc := 12) o 2 dX0_bedded_12 rfl rfl ?_
        refine g_iload_n (pc := 13) o 1 dX0_bedded_13 rfl rfl ?_
        refine g_aload_n (pc := 14) o 0 dX0_bedded_14 rfl rfl ?_
        refine g_getR (pc := 15) o flRX0_39 (by first | assumption | rfl) (by first | assumption | omega) (by assumption) dX0_bedded_15 ?_
        refine g_iload_n (pc := 18) o 3 dX0_bedded_18 rfl rfl ?_
        refine g_iald (pc := 19) o (c) (by first | assumption | rfl) (by first | assumption | omega) rfl (by omega) dX0_bedded_19 ?_
        rw [ml c (by omega)]
        refine g_iand (pc := 20) o dX0_bedded_20 ?_
        rw [n_and]
        refine g_S1i (pc := 21) o lkRX0_80 cmJ6_bitCount_0f7a4 (cbc (Nat.lt_trans (and6 (liv6 t2 c)) (by decide))) rfl rfl ⟨Nat.le_refl _, Nat.le_refl _⟩ dX0_bedded_21 ?_
        refine g_aload_n (pc := 24) o 0 dX0_bedded_24 rfl rfl ?_
        refine g_getR (pc := 25) o flRX0_9 (by first | assumption | rfl) (by first | assumption | omega) (by assumption) dX0_bedded_25 ?_
        refine g_iload_n (pc := 28) o 3 dX0_bedded_28 rfl rfl ?_
        refine g_iald (pc := 29) o (c) (by first | assumption | rfl) (by first | assumption | omega) rfl (by omega) dX0_bedded_29 ?_
        rw [mb c (by omega)]
        have hx := tD c (by omega)
        have hp := pop_le (w &&& liv T c)
        refine g_min (pc := 30) o lkRX0_85 rfl rfl ⟨Nat.le_refl _, Nat.le_refl _⟩ dX0_bedded_30 ?_ st_min ini_math co_min
        rw [n_min (by omega) (by omega)]
        refine g_iadd (pc := 33) o dX0_bedded_33 ?_
        rw [nI_add]
        refine g_istore_n (pc := 34) o 2 dX0_bedded_34 rfl rfl ?_
        refine g_incN (pc := 35) o (c) dX0_bedded_35 rfl rfl ?_
        refine g_goto (pc := 38) o 4 dX0_bedded_38 (by decide) ?_
        exact ih (c + 1) (by omega) (by omega)
  refine g_iconst (pc := 0) (v := 0) o dX0_bedded_0 (by decide) ?_
  refine g_istore_n (pc := 1) o 2 dX0_bedded_1 rfl rfl ?_
  refine g_iconst (pc := 2) (v := 0) o dX0_bedded_2 (by decide) ?_
  refine g_istore_n (pc := 3) o 3 dX0_bedded_3 rfl rfl ?_
  exact loop (T 0 + 1) 0 (by omega) (by omega)

set_option maxHeartbeats 2000000 in
set_option maxRecDepth 20000 in
theorem cX0could {c0 : Nat} {T : Nat → Nat} (hc : c0 = 4 ∨ c0 = 16) (hn : 96 ≤ n) (rc : RCi Rf c0) (ht : okT T) (hm : cyT M c0 T) {a bb : Nat} {S : Nat → Nat} (ha : a ∈ nows) (ra : RNi Rf a) (hs : nwS M a S (T 2)) (os : okS S (T 2) bb) : Ret Λ (d + 1) mX0_couldLieDown [.ref c0, .ref a] (n, M, Rf, Lg) (some (.int (nI (mk (cou T S) (T 2))))) (n, M, Rf, Lg) 0 0 := by
  refine Ret.of rfl rfl rfl (fun κ o f hin => ?_)
  obtain ⟨r3, r4, r6, r7, r8, r9, r11, r12, r13, r14, r15⟩ := rc
  obtain ⟨z0, z1, z2, z3, z4, z5, z6, z7, z8, z9, z10, z11⟩ := city_shp hc
  obtain ⟨⟨t0, t0b⟩, t1, t2, t3, tD, tC, tN⟩ := ht
  obtain ⟨m0, m1, m5, m10, mb, mj, mc, mn, ml⟩ := hm
  obtain ⟨y0, y1, y2, y3, ylt⟩ := now_shp ha
  obtain ⟨u3, u4, u5⟩ := id ra
  obtain ⟨s0, s1, s2, sc⟩ := id hs
  obtain ⟨os0, os1, os2, osc⟩ := id os
  have loop : ∀ k c : Nat, c ≤ T 2 → T 2 < c + k → G (Λ, κ) 4 [some (.ref c0), some (.ref a), some (.int (nI (mk (cou T S) c))), some (.int (nI c))] [] (n, M, Rf, Lg) 0 0 := by
    intro k
    induction k with
    | zero => intro c h1 h2; exact absurd h2 (by omega)
    | succ k ih =>
      intro c h1 h2
      refine g_iload_n (pc := 4) o 3 dX0_couldLieDown_4 rfl rfl ?_
      refine g_aload_n (pc := 5) o 0 dX0_couldLieDown_5 rfl rfl ?_
      refine g_getI (pc := 6) o flRX0_56 (by first | assumption | rfl) (by first | assumption | omega) dX0_couldLieDown_6 ?_
      refine g_icmp_ge (pc := 9) o 58 dX0_couldLieDown_9 (by decide) (fun q9 => ?_) (fun q9 => ?_)
      · have ec : c = T 2 := by have := (le_N (a := T 2) (b := c) (by omega) (by omega) m5 rfl).mp q9; omega
        refine g_iload_n (pc := 58) o 2 dX0_couldLieDown_58 rfl rfl ?_
        exact g_iret (pc := 59) o f dX0_couldLieDown_59 rfl (by rw [ec]) rfl
      · have hc1 : c < T 2 := by have := mt (le_N (a := T 2) (b := c) (by omega) (by omega) m5 rfl).mpr q9; omega
        have hx := tC c hc1
        have hy := osc c hc1
        have hz := sc c hc1
        refine g_aload_n (pc := 12) o 1 dX0_couldLieDown_12 rfl rfl ?_
        refine g_getR (pc := 13) o flRX0_91 (by first | assumption | rfl) (by first | assumption | omega) (by assumption) dX0_couldLieDown_13 ?_
        refine g_iload_n (pc := 16) o 3 dX0_couldLieDown_16 rfl rfl ?_
        refine g_iald (pc := 17) o (c) (by first | assumption | rfl) (by first | assumption | omega) rfl (by omega) dX0_couldLieDown_17 ?_
        rw [hz.2.1]
        refine g_aload_n (pc := 18) o 0 dX0_couldLieDown_18 rfl rfl ?_
        refine g_getR (pc := 19) o flRX0_24 (by first | assumption | rfl) (by first | assumption | omega) (by assumption) dX0_couldLieDown_19 ?_
        refine g_iload_n (pc := 22) o 3 dX0_couldLieDown_22 rfl rfl ?_
        refine g_iald (pc := 23) o (c) (by first | assumption | rfl) (by first | assumption | omega) rfl (by omega) dX0_couldLieDown_23 ?_
        rw [(mc c hc1).2.2.1]
        refine g_iconst (pc := 24) (v := -1) o dX0_couldLieDown_24 (by decide) ?_
        refine g_ixor (pc := 25) o dX0_couldLieDown_25 ?_
        refine g_iand (pc := 26) o dX0_couldLieDown_26 ?_
        rw [n_dif]
        refine g_aload_n (pc := 27) o 1 dX0_couldLieDown_27 rfl rfl ?_
        refine g_getI (pc := 28) o flRX0_96 (by first | assumption | rfl) (by first | assumption | omega) dX0_couldLieDown_28 ?_
        rw [s1]
        refine g_SN2i (pc := 31) o lkRX0_69 cmX3_has (cX3has (Nat.lt_of_lt_of_le (dif_lt (k := 8) (by omega)) (by decide)) (by omega)) rfl rfl ⟨Nat.le_refl _, Nat.le_refl _⟩ dX0_couldLieDown_31 ?_
        refine g_if_eq (pc := 34) o 52 dX0_couldLieDown_34 (by decide) (fun q34 => ?_) (fun q34 => ?_)
        · have e1 : mk (cou T S) (c + 1) = mk (cou T S) c := mk_f (by unfold cou; have g := ts_nt9 (bi_z.mp q34); rw [dif_bit] at g; rw [g]; rfl)
          refine g_incN (pc := 52) o (c) dX0_couldLieDown_52 rfl rfl ?_
          refine g_goto (pc := 55) o 4 dX0_couldLieDown_55 (by decide) ?_
          first | exact ih (c + 1) (by omega) (by omega) | (rw [← e1]; exact ih (c + 1) (by omega) (by omega))
        · have g1 := bi_nz.mp q34
          rw [dif_bit] at g1
          refine g_aload_n (pc := 37) o 1 dX0_couldLieDown_37 rfl rfl ?_
          refine g_getR (pc := 38) o flRX0_99 (by first | assumption | rfl) (by first | assumption | omega) (by assumption) dX0_couldLieDown_38 ?_
          refine g_iload_n (pc := 41) o 3 dX0_couldLieDown_41 rfl rfl ?_
          refine g_iald (pc := 42) o (c) (by first | assumption | rfl) (by first | assumption | omega) rfl (by omega) dX0_couldLieDown_42 ?_
          rw [hz.1]
          refine g_if_le (pc := 43) o 52 dX0_couldLieDown_43 (by decide) (fun q43 => ?_) (fun q43 => ?_)
          · have e1 : mk (cou T S) (c + 1) = mk (cou T S) c := mk_f (by unfold cou; have g := (le_N (b := 0) (by omega) (by decide) rfl rfl).mp q43; rw [show decide (0 < S (3 + c)) = false from decide_eq_false (by omega)]; simp)
            refine g_incN (pc := 52) o (c) dX0_couldLieDown_52 rfl rfl ?_
            refine g_goto (pc := 55) o 4 dX0_couldLieDown_55 (by decide) ?_
            first | exact ih (c + 1) (by omega) (by omega) | (rw [← e1]; exact ih (c + 1) (by omega) (by omega))
          · have e1 := mk_t (p := (cou T S)) (n := c) (by have g := mt (le_N (b := 0) (by omega) (by decide) rfl rfl).mpr q43; unfold cou; rw [g1]; simp; omega) (by omega)
            refine g_iload_n (pc := 46) o 2 dX0_couldLieDown_46 rfl rfl ?_
            refine g_iconst (pc := 47) (v := 1) o dX0_couldLieDown_47 (by decide) ?_
            refine g_iload_n (pc := 48) o 3 dX0_couldLieDown_48 rfl rfl ?_
            refine g_ishl (pc := 49) o dX0_couldLieDown_49 ?_
            refine g_ior (pc := 50) o dX0_couldLieDown_50 ?_
            rw [e1]
            refine g_istore_n (pc := 51) o 2 dX0_couldLieDown_51 rfl rfl ?_
            refine g_incN (pc := 52) o (c) dX0_couldLieDown_52 rfl rfl ?_
            refine g_goto (pc := 55) o 4 dX0_couldLieDown_55 (by decide) ?_
            first | exact ih (c + 1) (by omega) (by omega) | (rw [← e1]; exact ih (c + 1) (by omega) (by omega))
  refine g_iconst (pc := 0) (v := 0) o dX0_couldLieDown_0 (by decide) ?_
  refine g_istore_n (pc := 1) o 2 dX0_couldLieDown_1 rfl rfl ?_
  refine g_iconst (pc := 2) (v := 0) o dX0_couldLieDown_2 (by decide) ?_
  refine g_istore_n (pc := 3) o 3 dX0_couldLieDown_3 rfl rfl ?_
  exact loop (T 2 + 1) 0 (by omega) (by omega)

set_option maxHeartbeats 2000000 in
set_option maxRecDepth 20000 in
theorem cX0lying {c0 : Nat} {T : Nat → Nat} (hc : c0 = 4 ∨ c0 = 16) (hn : 96 ≤ n) (rc : RCi Rf c0) (ht : okT T) (hm : cyT M c0 T) {a bb : Nat} {S : Nat → Nat} (ha : a ∈ nows) (ra : RNi Rf a) (hs : nwS M a S (T 2)) (os : okS S (T 2) bb) {ab : Int32} : Ret Λ (d + 2) mX0_lyingDown [.ref c0, .ref a, .int ab] (n, M, Rf, Lg) (some (.int (nI (lie T (fun i => cou T S i && !decide (nI i = ab)))))) (n, M, Rf, Lg) 0 0 := by
  refine Ret.of rfl rfl rfl (fun κ o f hin => ?_)
  obtain ⟨r3, r4, r6, r7, r8, r9, r11, r12, r13, r14, r15⟩ := id rc
  obtain ⟨z0, z1, z2, z3, z4, z5, z6, z7, z8, z9, z10, z11⟩ := city_shp hc
  obtain ⟨⟨t0, t0b⟩, t1, t2, t3, tD, tC, tN⟩ := id ht
  obtain ⟨m0, m1, m5, m10, mb, mj, mc, mn, ml⟩ := id hm
  obtain ⟨y0, y1, y2, y3, ylt⟩ := now_shp ha
  obtain ⟨u3, u4, u5⟩ := id ra
  obtain ⟨s0, s1, s2, sc⟩ := id hs
  obtain ⟨os0, os1, os2, osc⟩ := id os
  have loop : ∀ (k c : Nat) (dm : Option Value), c ≤ T 2 → T 2 < c + k → G (Λ, κ) 12 [some (.ref c0), some (.ref a), some (.int ab), some (.int (nI (mk (cou T S) (T 2)))), some (.int (nI (lieL T (fun i => cou T S i && !decide (nI i = ab)) c))), some (.int (nI c)), dm] [] (n, M, Rf, Lg) 0 0 := by
    intro k
    induction k with
    | zero => intro c dm h1 h2; exact absurd h2 (by omega)
    | succ k ih =>
      intro c dm h1 h2
      have _z := h1
      refine g_iload (pc := 12) o dX0_lyingDown_12 rfl ?_
      refine g_aload_n (pc := 14) o 0 dX0_lyingDown_14 rfl rfl ?_
      refine g_getI (pc := 15) o flRX0_56 (by first | assumption | rfl) (by first | assumption | omega) dX0_lyingDown_15 ?_
      refine g_icmp_ge (pc := 18) o 83 dX0_lyingDown_18 (by decide) (fun q18 => ?_) (fun q18 => ?_)
      · have ec : c = T 2 := by have := (le_N (a := T 2) (b := c) (by omega) (by omega) m5 rfl).mp q18; omega
        refine g_iload (pc := 83) o dX0_lyingDown_83 rfl ?_
        exact g_iret (pc := 85) o f dX0_lyingDown_85 rfl (by rw [ec]; rfl) rfl
      · have hc1 : c < T 2 := by have := mt (le_N (a := T 2) (b := c) (by omega) (by omega) m5 rfl).mpr q18; omega
        refine g_aload_n (pc := 21) o 0 dX0_lyingDown_21 rfl rfl ?_
        refine g_getR (pc := 22) o flRX0_18 (by first | assumption | rfl) (by first | assumption | omega) (by assumption) dX0_lyingDown_22 ?_
        refine g_iload (pc := 25) o dX0_lyingDown_25 rfl ?_
        refine g_iald (pc := 27) o (c) (by first | assumption | rfl) (by first | assumption | omega) rfl (by omega) dX0_lyingDown_27 ?_
        have hx := tC c hc1
        rw [(mc c hc1).1]
        refine g_istore (pc := 28) o dX0_lyingDown_28 rfl ?_
        refine g_iload (pc := 30) o dX0_lyingDown_30 rfl ?_
        refine g_iload_n (pc := 32) o 2 dX0_lyingDown_32 rfl rfl ?_
        refine g_icmp_eq (pc := 33) o 77 dX0_lyingDown_33 (by decide) (fun q33 => ?_) (fun q33 => ?_)
        · have e1 : lieL T (fun i => cou T S i && !decide (nI i = ab)) (c + 1) = lieL T (fun i => cou T S i && !decide (nI i = ab)) c := lieL_f (by simp [q33])
          refine g_incN (pc := 77) o (c) dX0_lyingDown_77 rfl rfl ?_
          refine g_goto (pc := 80) o 12 dX0_lyingDown_80 (by decide) ?_
          first | exact ih (c + 1) _ (by omega) (by omega) | (rw [← e1]; exact ih (c + 1) _ (by omega) (by omega))
        · refine g_iload_n (pc := 36) o 3 dX0_lyingDown_36 rfl rfl ?_
          refine g_iload (pc := 37) o dX0_lyingDown_37 rfl ?_
          refine g_SN2i (pc := 39) o lkRX0_69 cmX3_has (cX3has (mk31 _ t2) (by omega)) rfl rfl ⟨Nat.le_refl _, Nat.le_refl _⟩ dX0_lyingDown_39 ?_
          refine g_if_eq (pc := 42) o 77 dX0_lyingDown_42 (by decide) (fun q42 => ?_) (fun q42 => ?_)
          · have e1 : lieL T (fun i => cou T S i && !decide (nI i = ab)) (c + 1) = lieL T (fun i => cou T S i && !decide (nI i = ab)) c := lieL_f (by have g := ts_nt9 (bi_z.mp q42); rw [mk_bit, decide_eq_true hc1, Bool.true_and] at g; simp [g])
            refine g_incN (pc := 77) o (c) dX0_lyingDown_77 rfl rfl ?_
            refine g_goto (pc := 80) o 12 dX0_lyingDown_80 (by decide) ?_
            first | exact ih (c + 1) _ (by omega) (by omega) | (rw [← e1]; exact ih (c + 1) _ (by omega) (by omega))
          · have g1 := bi_nz.mp q42
            rw [mk_bit, decide_eq_true hc1, Bool.true_and] at g1
            refine g_iload (pc := 45) o dX0_lyingDown_45 rfl ?_
            refine g_aload_n (pc := 47) o 0 dX0_lyingDown_47 rfl rfl ?_
            refine g_getR (pc := 48) o flRX0_39 (by first | assumption | rfl) (by first | assumption | omega) (by assumption) dX0_lyingDown_48 ?_
            refine g_iload (pc := 51) o dX0_lyingDown_51 rfl ?_
            refine g_iald (pc := 53) o (T (14 + c)) (by first | assumption | rfl) (by first | assumption | omega) rfl (by omega) dX0_lyingDown_53 ?_
            rw [ml _ (by omega)]
            refine g_iand (pc := 54) o dX0_lyingDown_54 ?_
            rw [n_and]
            refine g_S1i (pc := 55) o lkRX0_80 cmJ6_bitCount_0f7a4 (cbc (Nat.lt_trans (and6 (liv6 t2 _)) (by decide))) rfl rfl ⟨Nat.le_refl _, Nat.le_refl _⟩ dX0_lyingDown_55 ?_
            refine g_aload_n (pc := 58) o 0 dX0_lyingDown_58 rfl rfl ?_
            refine g_getR (pc := 59) o flRX0_9 (by first | assumption | rfl) (by first | assumption | omega) (by assumption) dX0_lyingDown_59 ?_
            refine g_iload (pc := 62) o dX0_lyingDown_62 rfl ?_
            refine g_iald (pc := 64) o (T (14 + c)) (by first | assumption | rfl) (by first | assumption | omega) rfl (by omega) dX0_lyingDown_64 ?_
            rw [mb _ (by omega)]
            have hy := tD (T (14 + c)) (by omega)
            have hp := pop_le (lieL T (fun i => cou T S i && !decide (nI i = ab)) c &&& liv T (T (14 + c)))
            refine g_icmp_ge (pc := 65) o 77 dX0_lyingDown_65 (by decide) (fun q65 => ?_) (fun q65 => ?_)
            · have e1 : lieL T (fun i => cou T S i && !decide (nI i = ab)) (c + 1) = lieL T (fun i => cou T S i && !decide (nI i = ab)) c := lieL_f (by have g := (le_N (by omega) (by omega) rfl rfl).mp q65; simp [Nat.not_lt.mpr g])
              refine g_incN (pc := 77) o (c) dX0_lyingDown_77 rfl rfl ?_
              refine g_goto (pc := 80) o 12 dX0_lyingDown_80 (by decide) ?_
              first | exact ih (c + 1) _ (by omega) (by omega) | (rw [← e1]; exact ih (c + 1) _ (by omega) (by omega))
            · have e1 := lieL_t (T := T) (cd := (fun i => cou T S i && !decide (nI i = ab))) (n := c) (by have g := mt (le_N (by omega) (by omega) rfl rfl).mpr q65; simp [g1, q33]; omega) (by omega)
              refine g_iload (pc := 68) o dX0_lyingDown_68 rfl ?_
              refine g_iconst (pc := 70) (v := 1) o dX0_lyingDown_70 (by decide) ?_
              refine g_iload (pc := 71) o dX0_lyingDown_71 rfl ?_
              refine g_ishl (pc := 73) o dX0_lyingDown_73 ?_
              refine g_ior (pc := 74) o dX0_lyingDown_74 ?_
              rw [e1]
              refine g_istore (pc := 75) o dX0_lyingDown_75 rfl ?_
              refine g_incN (pc := 77) o (c) dX0_lyingDown_77 rfl rfl ?_
              refine g_goto (pc := 80) o 12 dX0_lyingDown_80 (by decide) ?_
              first | exact ih (c + 1) _ (by omega) (by omega) | (rw [← e1]; exact ih (c + 1) _ (by omega) (by omega))
  refine g_aload_n (pc := 0) o 0 dX0_lyingDown_0 rfl rfl ?_
  refine g_aload_n (pc := 1) o 1 dX0_lyingDown_1 rfl rfl ?_
  refine g_V1i (pc := 2) o lkRX0_102 cmX0_couldLieDown (cX0could hc hn rc ht hm ha ra hs os) (by first | assumption | rfl) (by first | assumption | omega) rfl rfl ⟨Nat.le_refl _, Nat.le_refl _⟩ dX0_lyingDown_2 ?_
  refine g_istore_n (pc := 5) o 3 dX0_lyingDown_5 rfl rfl ?_
  refine g_iconst (pc := 6) (v := 0) o dX0_lyingDown_6 (by decide) ?_
  refine g_istore (pc := 7) o dX0_lyingDown_7 rfl ?_
  refine g_iconst (pc := 9) (v := 0) o dX0_lyingDown_9 (by decide) ?_
  refine g_istore (pc := 10) o dX0_lyingDown_10 rfl ?_
  exact loop (T 2 + 1) 0 none (by omega) (by omega)

set_option maxHeartbeats 2000000 in
set_option maxRecDepth 20000 in
theorem cX0asleep {c0 : Nat} {T : Nat → Nat} (hc : c0 = 4 ∨ c0 = 16) (hn : 96 ≤ n) (rc : RCi Rf c0) (ht : okT T) (hm : cyT M c0 T) {a bb : Nat} {S : Nat → Nat} (ha : a ∈ nows) (ra : RNi Rf a) (hs : nwS M a S (T 2)) (os : okS S (T 2) bb) (hr : cyR M c0 T) {ab : Int32} : Ret Λ (d + 3) mX0_asleep [.ref c0, .ref a, .int ab] (n, M, Rf, Lg) (some (.int (nI (slp T S (fun i => cou T S i && !decide (nI i = ab)))))) (n, M, Rf, Lg) 0 0 := by
  refine Ret.of rfl rfl rfl (fun κ o f hin => ?_)
  obtain ⟨r3, r4, r6, r7, r8, r9, r11, r12, r13, r14, r15⟩ := id rc
  obtain ⟨z0, z1, z2, z3, z4, z5, z6, z7, z8, z9, z10, z11⟩ := city_shp hc
  obtain ⟨⟨t0, t0b⟩, t1, t2, t3, tD, tC, tN⟩ := id ht
  obtain ⟨m0, m1, m5, m10, mb, mj, mc, mn, ml⟩ := id hm
  obtain ⟨y0, y1, y2, y3, ylt⟩ := now_shp ha
  obtain ⟨u3, u4, u5⟩ := id ra
  obtain ⟨s0, s1, s2, sc⟩ := id hs
  obtain ⟨os0, os1, os2, osc⟩ := id os
  refine g_aload_n (pc := 0) o 0 dX0_asleep_0 rfl rfl ?_
  refine g_aload_n (pc := 1) o 1 dX0_asleep_1 rfl rfl ?_
  refine g_iload_n (pc := 2) o 2 dX0_asleep_2 rfl rfl ?_
  refine g_V2i (pc := 3) o lkRX0_106 cmX0_lyingDown (cX0lying hc hn rc ht hm ha ra hs os) (by first | assumption | rfl) (by first | assumption | omega) rfl rfl ⟨Nat.le_refl _, Nat.le_refl _⟩ dX0_asleep_3 ?_
  refine g_aload_n (pc := 6) o 0 dX0_asleep_6 rfl rfl ?_
  refine g_getR (pc := 7) o flRX0_42 (by first | assumption | rfl) (by first | assumption | omega) (by assumption) dX0_asleep_7 ?_
  refine g_aload_n (pc := 10) o 1 dX0_asleep_10 rfl rfl ?_
  refine g_getI (pc := 11) o flRX0_96 (by first | assumption | rfl) (by first | assumption | omega) dX0_asleep_11 ?_
  rw [s1]
  refine g_iald (pc := 14) o (S 1) (by first | assumption | rfl) (by first | assumption | omega) rfl (by omega) dX0_asleep_14 ?_
  rw [hr _ os1]
  refine g_iand (pc := 15) o dX0_asleep_15 ?_
  rw [n_and]
  exact g_iret (pc := 16) o f dX0_asleep_16 rfl rfl rfl
end M3
end
section
section M4
variable {Λ : PL} {d n : Nat} {M : HM} {Rf : HR} {Lg : HL}

theorem now_mod {a : Nat} (h : a ∈ nows) : a % 4 = 0 ∧ 28 ≤ a ∧ a ≤ 92 := by
  have key : ∀ a ∈ nows, a % 4 = 0 ∧ 28 ≤ a ∧ a ≤ 92 := by decide
  exact key a h
/-- a new beginning, the first c citizens of it -/
def bgnC (M : HM) (a c0 c : Nat) : HM := fun z j => if z = a ∧ j < 3 then 0 else if z = a + 1 ∧ j < c then M (c0 + 4) j else if (z = a + 2 ∨ z = a + 3) ∧ j < c then 0 else M z j
def bgnM (M : HM) (a c0 : Nat) : HM := bgnC M a c0 6
theorem bgnC_0 (M : HM) (a c0 : Nat) : st2 (st2 (st2 M a 0 0) a 1 0) a 2 0 = bgnC M a c0 0 := by
  funext z j; simp only [st2, bgnC]; grind
theorem bgnC_s (M : HM) {a c0 : Nat} (c : Nat) (h : c0 + 4 < a) : st2 (st2 (st2 (bgnC M a c0 c) (a + 1) c (bgnC M a c0 c (c0 + 4) c)) (a + 2) c 0) (a + 3) c 0 = bgnC M a c0 (c + 1) := by
  funext z j; simp only [st2, bgnC]; grind
/-- another's hours, taken over -/
def bcmM (M : HM) (a b : Nat) : HM := fun z j => if z = a ∧ j < 3 then M b j else if z = a + 1 ∧ j < 6 then M (b + 1) j else if z = a + 2 ∧ j < 6 then M (b + 2) j else if z = a + 3 ∧ j < 6 then M (b + 3) j else M z j
/-- an hour gone by -/
def passM (M : HM) (a w C Q : Nat) : HM := fun z j =>
  if z = a + 1 ∧ j < 6 then tir (w.testBit j) (M z j)
  else if z = a + 3 ∧ j < C then M z j + nI (bn (w.testBit j))
  else if z = a ∧ j = 2 then (if pop w < Q then M a 2 + 1 else M a 2)
  else if z = a ∧ j = 1 then (if M a 1 + 1 < 8 then M a 1 + 1 else 0)
  else if z = a ∧ j = 0 then (if M a 1 + 1 < 8 then M a 0 else M a 0 + 1) else M z j
def tirN (t : Bool) (v : Nat) : Nat := if t then v - 2 else min (v + 1) 20
theorem tir_N : ∀ v, v < 21 → ∀ t, tir t (nI v) = nI (tirN t v) := by decide +kernel
def stepS (T S : Nat → Nat) (w : Nat) : Nat → Nat := fun k =>
  if k = 0 then (if S 1 + 1 < 8 then S 0 else S 0 + 1)
  else if k = 1 then (if S 1 + 1 < 8 then S 1 + 1 else 0)
  else if k = 2 then (if pop w < T 1 then S 2 + 1 else S 2)
  else if k < 9 then (if k - 3 < T 2 then tirN (w.testBit (k - 3)) (S k) else S k)
  else if k < 15 then S k
  else (if k - 15 < T 2 then S k + bn (w.testBit (k - 15)) else S k)
theorem passM_ne (M : HM) (a w C Q : Nat) {z : Nat} (h : z < a ∨ a + 3 < z) : passM M a w C Q z = M z := by
  funext j; unfold passM; grind
theorem bcmM_ne (M : HM) (a b : Nat) {z : Nat} (h : z < a ∨ a + 3 < z) : bcmM M a b z = M z := by
  funext j; unfold bcmM; grind
theorem bgnM_ne (M : HM) (a c0 : Nat) {z : Nat} (h : z < a ∨ a + 3 < z) : bgnM M a c0 z = M z := by
  funext j; unfold bgnM bgnC; grind
theorem tirN_le (t : Bool) (v : Nat) (h : v ≤ 20) : tirN t v ≤ 20 := by unfold tirN; split <;> omega
theorem step_ok {T S : Nat → Nat} {b : Nat} (w : Nat) (t2 : T 2 ≤ 6) (h : okS S (T 2) b) : okS (stepS T S w) (T 2) (b + 1) := by
  obtain ⟨h0, h1, h2, hc⟩ := h
  refine ⟨?_, ?_, ?_, fun i hi => ?_⟩
  · show (if S 1 + 1 < 8 then S 0 else S 0 + 1) ≤ b + 1
    split <;> omega
  · show (if S 1 + 1 < 8 then S 1 + 1 else 0) < 8
    split <;> omega
  · show (if pop w < T 1 then S 2 + 1 else S 2) ≤ b + 1
    split <;> omega
  · have h6 : i < 6 := by omega
    · obtain ⟨g1, g2, g3⟩ := hc i hi
      refine ⟨?_, ?_, ?_⟩
      · simp only [stepS, show ¬ 3 + i = 0 by omega, show ¬ 3 + i = 1 by omega, show ¬ 3 + i = 2 by omega, show 3 + i < 9 by omega, if_true, if_false, show 3 + i - 3 = i by omega, hi]
        exact tirN_le _ _ g1
      · simp only [stepS, show ¬ 9 + i = 0 by omega, show ¬ 9 + i = 1 by omega, show ¬ 9 + i = 2 by omega, show ¬ 9 + i < 9 by omega, show 9 + i < 15 by omega, if_true, if_false]
        exact g2
      · simp only [stepS, show ¬ 15 + i = 0 by omega, show ¬ 15 + i = 1 by omega, show ¬ 15 + i = 2 by omega, show ¬ 15 + i < 9 by omega, show ¬ 15 + i < 15 by omega, if_true, if_false, show 15 + i - 15 = i by omega, hi]
        have := bn_le (w.testBit i)
        omega

theorem pass_now {M : HM} {a w : Nat} {T S : Nat → Nat} {b : Nat} (t2 : T 2 ≤ 6) (hb : b < 2000000) (hs : nwS M a S (T 2)) (os : okS S (T 2) b) : nwS (passM M a w (T 2) (T 1)) a (stepS T S w) (T 2) := by
  obtain ⟨s0, s1, s2, sc⟩ := hs
  obtain ⟨o0, o1, o2, oc⟩ := os
  have e1 : M a 1 + 1 = nI (S 1 + 1) := by rw [s1]; exact nI_1 _
  have e2 : (M a 1 + 1 < 8) ↔ S 1 + 1 < 8 := by rw [e1]; exact lt_N (b := 8) (by omega) (by decide) rfl rfl
  refine ⟨?_, ?_, ?_, fun i hi => ⟨?_, ?_, ?_⟩⟩
  · have : passM M a w (T 2) (T 1) a 0 = (if M a 1 + 1 < 8 then M a 0 else M a 0 + 1) := by unfold passM; grind
    rw [this]
    show _ = nI (if S 1 + 1 < 8 then S 0 else S 0 + 1)
    by_cases h : S 1 + 1 < 8
    · rw [if_pos h, if_pos (e2.mpr h), s0]
    · rw [if_neg h, if_neg (fun q => h (e2.mp q)), s0]; exact nI_1 _
  · have : passM M a w (T 2) (T 1) a 1 = (if M a 1 + 1 < 8 then M a 1 + 1 else 0) := by unfold passM; grind
    rw [this]
    show _ = nI (if S 1 + 1 < 8 then S 1 + 1 else 0)
    by_cases h : S 1 + 1 < 8
    · rw [if_pos h, if_pos (e2.mpr h), e1]
    · rw [if_neg h, if_neg (fun q => h (e2.mp q))]; rfl
  · have : passM M a w (T 2) (T 1) a 2 = (if pop w < T 1 then M a 2 + 1 else M a 2) := by unfold passM; grind
    rw [this]
    show _ = nI (if pop w < T 1 then S 2 + 1 else S 2)
    by_cases h : pop w < T 1
    · rw [if_pos h, if_pos h, s2]; exact nI_1 _
    · rw [if_neg h, if_neg h, s2]
  · have h6 : i < 6 := by omega
    have : passM M a w (T 2) (T 1) (a + 1) i = tir (w.testBit i) (M (a + 1) i) := by unfold passM; simp [h6]
    rw [this, (sc i hi).1, tir_N _ (by have := (oc i hi).1; omega)]
    simp only [stepS, show ¬ 3 + i = 0 by omega, show ¬ 3 + i = 1 by omega, show ¬ 3 + i = 2 by omega, show 3 + i < 9 by omega, if_true, if_false, show 3 + i - 3 = i by omega, hi]
  · have : passM M a w (T 2) (T 1) (a + 2) i = M (a + 2) i := by unfold passM; grind
    rw [this, (sc i hi).2.1]
    simp only [stepS, show ¬ 9 + i = 0 by omega, show ¬ 9 + i = 1 by omega, show ¬ 9 + i = 2 by omega, show ¬ 9 + i < 9 by omega, show 9 + i < 15 by omega, if_true, if_false]
  · have : passM M a w (T 2) (T 1) (a + 3) i = M (a + 3) i + nI (bn (w.testBit i)) := by unfold passM; grind
    rw [this, (sc i hi).2.2, nI_add]
    simp only [stepS, show ¬ 15 + i = 0 by omega, show ¬ 15 + i = 1 by omega, show ¬ 15 + i = 2 by omega, show ¬ 15 + i < 9 by omega, show ¬ 15 + i < 15 by omega, if_true, if_false, show 15 + i - 15 = i by omega, hi]
theorem bcm_now {M : HM} {a b : Nat} {S : Nat → Nat} {C : Nat} (hC : C ≤ 6) (hs : nwS M b S C) : nwS (bcmM M a b) a S C := by
  obtain ⟨s0, s1, s2, sc⟩ := hs
  refine ⟨?_, ?_, ?_, fun i hi => ⟨?_, ?_, ?_⟩⟩
  · rw [← s0]; unfold bcmM; grind
  · rw [← s1]; unfold bcmM; grind
  · rw [← s2]; unfold bcmM; grind
  · rw [← (sc i hi).1]; unfold bcmM; grind
  · rw [← (sc i hi).2.1]; unfold bcmM; grind
  · rw [← (sc i hi).2.2]; unfold bcmM; grind

set_option maxHeartbeats 2000000 in
set_option maxRecDepth 20000 in
theorem cX1begin {a c0 : Nat} (ha : a ∈ nows) (ra : RNi Rf a) (hc : c0 = 4 ∨ c0 = 16) (hn : 96 ≤ n) (rc : Rf c0 7 = some (c0 + 4)) : Ret Λ (d) mX1_begin [.ref a, .ref c0] (n, M, Rf, Lg) none (n, bgnM M a c0, Rf, Lg) 0 0 := by
  refine Ret.of rfl rfl rfl (fun κ o f hin => ?_)
  obtain ⟨y0, y1, y2, y3, ylt⟩ := now_shp ha
  obtain ⟨u3, u4, u5⟩ := id ra
  have ymod := now_mod ha
  have z0 := (city_shp hc).1
  have z4 := (city_shp hc).2.2.2.2.1
  have loop : ∀ k c : Nat, c ≤ 6 → 6 < c + k → G (Λ, κ) 17 [some (.ref a), some (.ref c0), some (.int (nI c))] [] (n, bgnC M a c0 c, Rf, Lg) 0 0 := by
    intro k
    induction k with
    | zero => intro c h1 h2; exact absurd h2 (by omega)
    | succ k ih =>
      intro c h1 h2
      refine g_iload_n (pc := 17) o 2 dX1_begin_17 rfl rfl ?_
      refine g_bipush (pc := 18) (v := 6) o dX1_begin_18 (by decide) ?_
      refine g_icmp_ge (pc := 20) o 55 dX1_begin_20 (by decide) (fun q20 => ?_) (fun q20 => ?_)
      · have e6 : c = 6 := by have := (le_N (a := 6) (b := c) (by decide) (by omega) rfl rfl).mp q20; omega
        exact g_vret (pc := 55) o f dX1_begin_55 (by rw [e6]; rfl)
      · have h6 : c < 6 := by have := mt (le_N (a := 6) (b := c) (by decide) (by omega) rfl rfl).mpr q20; omega
        refine g_aload_n (pc := 23) o 0 dX1_begin_23 rfl rfl ?_
        refine g_getR (pc := 24) o flRX1_9 (by first | assumption | rfl) (by first | assumption | omega) (by assumption) dX1_begin_24 ?_
        refine g_iload_n (pc := 27) o 2 dX1_begin_27 rfl rfl ?_
        refine g_aload_n (pc := 28) o 1 dX1_begin_28 rfl rfl ?_
        refine g_getR (pc := 29) o flRX1_31 (by first | assumption | rfl) (by first | assumption | omega) (by assumption) dX1_begin_29 ?_
        refine g_iload_n (pc := 32) o 2 dX1_begin_32 rfl rfl ?_
        refine g_iald (pc := 33) o (c) (by first | assumption | rfl) (by first | assumption | omega) rfl (by omega) dX1_begin_33 ?_
        refine g_iast (pc := 34) o (c) (by first | assumption | rfl) (by first | assumption | omega) rfl (by omega) dX1_begin_34 ?_
        refine g_aload_n (pc := 35) o 0 dX1_begin_35 rfl rfl ?_
        refine g_getR (pc := 36) o flRX1_15 (by first | assumption | rfl) (by first | assumption | omega) (by assumption) dX1_begin_36 ?_
        refine g_iload_n (pc := 39) o 2 dX1_begin_39 rfl rfl ?_
        refine g_iconst (pc := 40) (v := 0) o dX1_begin_40 (by decide) ?_
        refine g_iast (pc := 41) o (c) (by first | assumption | rfl) (by first | assumption | omega) rfl (by omega) dX1_begin_41 ?_
        refine g_aload_n (pc := 42) o 0 dX1_begin_42 rfl rfl ?_
        refine g_getR (pc := 43) o flRX1_18 (by first | assumption | rfl) (by first | assumption | omega) (by assumption) dX1_begin_43 ?_
        refine g_iload_n (pc := 46) o 2 dX1_begin_46 rfl rfl ?_
        refine g_iconst (pc := 47) (v := 0) o dX1_begin_47 (by decide) ?_
        refine g_iast (pc := 48) o (c) (by first | assumption | rfl) (by first | assumption | omega) rfl (by omega) dX1_begin_48 ?_
        refine g_incN (pc := 49) o (c) dX1_begin_49 rfl rfl ?_
        refine g_goto (pc := 52) o 17 dX1_begin_52 (by decide) ?_
        exact g_eq rfl rfl rfl (hp_M (bgnC_s M c (by omega))) (ih (c + 1) (by omega) (by omega))
  refine g_aload_n (pc := 0) o 0 dX1_begin_0 rfl rfl ?_
  refine g_iconst (pc := 1) (v := 0) o dX1_begin_1 (by decide) ?_
  refine g_putI (pc := 2) o flRX1_21 rfl (by first | assumption | rfl) (by first | assumption | omega) rfl rfl dX1_begin_2 ?_
  refine g_aload_n (pc := 5) o 0 dX1_begin_5 rfl rfl ?_
  refine g_iconst (pc := 6) (v := 0) o dX1_begin_6 (by decide) ?_
  refine g_putI (pc := 7) o flRX1_25 rfl (by first | assumption | rfl) (by first | assumption | omega) rfl rfl dX1_begin_7 ?_
  refine g_aload_n (pc := 10) o 0 dX1_begin_10 rfl rfl ?_
  refine g_iconst (pc := 11) (v := 0) o dX1_begin_11 (by decide) ?_
  refine g_putI (pc := 12) o flRX1_28 rfl (by first | assumption | rfl) (by first | assumption | omega) rfl rfl dX1_begin_12 ?_
  refine g_iconst (pc := 15) (v := 0) o dX1_begin_15 (by decide) ?_
  refine g_istore_n (pc := 16) o 2 dX1_begin_16 rfl rfl ?_
  exact g_eq rfl rfl rfl (hp_M (bgnC_0 M a c0)) (loop 7 0 (by omega) (by omega))

set_option maxHeartbeats 2000000 in
set_option maxRecDepth 20000 in
theorem cX1become {a b : Nat} (ha : a ∈ nows) (ra : RNi Rf a) (hb : b ∈ nows) (rb : RNi Rf b) (hn : 96 ≤ n) : Ret Λ (d + 2) mX1_become [.ref a, .ref b] (n, M, Rf, Lg) none (n, bcmM M a b, Rf, Lg) 0 0 := by
  refine Ret.of rfl rfl rfl (fun κ o f hin => ?_)
  obtain ⟨y0, y1, y2, y3, ylt⟩ := now_shp ha
  obtain ⟨u3, u4, u5⟩ := id ra
  have ymod := now_mod ha
  obtain ⟨x0, x1, x2, x3, xlt⟩ := now_shp hb
  obtain ⟨v3, v4, v5⟩ := id rb
  have xmod := now_mod hb
  refine g_aload_n (pc := 0) o 0 dX1_become_0 rfl rfl ?_
  refine g_aload_n (pc := 1) o 1 dX1_become_1 rfl rfl ?_
  refine g_getI (pc := 2) o flRX1_21 (by first | assumption | rfl) (by first | assumption | omega) dX1_become_2 ?_
  refine g_putI (pc := 5) o flRX1_21 rfl (by first | assumption | rfl) (by first | assumption | omega) rfl rfl dX1_become_5 ?_
  refine g_aload_n (pc := 8) o 0 dX1_become_8 rfl rfl ?_
  refine g_aload_n (pc := 9) o 1 dX1_become_9 rfl rfl ?_
  refine g_getI (pc := 10) o flRX1_25 (by first | assumption | rfl) (by first | assumption | omega) dX1_become_10 ?_
  refine g_putI (pc := 13) o flRX1_25 rfl (by first | assumption | rfl) (by first | assumption | omega) rfl rfl dX1_become_13 ?_
  refine g_aload_n (pc := 16) o 0 dX1_become_16 rfl rfl ?_
  refine g_aload_n (pc := 17) o 1 dX1_become_17 rfl rfl ?_
  refine g_getI (pc := 18) o flRX1_28 (by first | assumption | rfl) (by first | assumption | omega) dX1_become_18 ?_
  refine g_putI (pc := 21) o flRX1_28 rfl (by first | assumption | rfl) (by first | assumption | omega) rfl rfl dX1_become_21 ?_
  refine g_aload_n (pc := 24) o 1 dX1_become_24 rfl rfl ?_
  refine g_getR (pc := 25) o flRX1_9 (by first | assumption | rfl) (by first | assumption | omega) (by assumption) dX1_become_25 ?_
  refine g_iconst (pc := 28) (v := 0) o dX1_become_28 (by decide) ?_
  refine g_aload_n (pc := 29) o 0 dX1_become_29 rfl rfl ?_
  refine g_getR (pc := 30) o flRX1_9 (by first | assumption | rfl) (by first | assumption | omega) (by assumption) dX1_become_30 ?_
  refine g_iconst (pc := 33) (v := 0) o dX1_become_33 (by decide) ?_
  refine g_bipush (pc := 34) (v := 6) o dX1_become_34 (by decide) ?_
  refine g_copy (pc := 36) o lkRX1_36 nat_copy st_copy ini_sys (by first | assumption | rfl) (by first | assumption | rfl) (by first | assumption | omega) (by first | assumption | omega) (6) rfl (by omega) (by omega) rfl rfl dX1_become_36 ?_
  refine g_aload_n (pc := 39) o 1 dX1_become_39 rfl rfl ?_
  refine g_getR (pc := 40) o flRX1_15 (by first | assumption | rfl) (by first | assumption | omega) (by assumption) dX1_become_40 ?_
  refine g_iconst (pc := 43) (v := 0) o dX1_become_43 (by decide) ?_
  refine g_aload_n (pc := 44) o 0 dX1_become_44 rfl rfl ?_
  refine g_getR (pc := 45) o flRX1_15 (by first | assumption | rfl) (by first | assumption | omega) (by assumption) dX1_become_45 ?_
  refine g_iconst (pc := 48) (v := 0) o dX1_become_48 (by decide) ?_
  refine g_bipush (pc := 49) (v := 6) o dX1_become_49 (by decide) ?_
  refine g_copy (pc := 51) o lkRX1_36 nat_copy st_copy ini_sys (by first | assumption | rfl) (by first | assumption | rfl) (by first | assumption | omega) (by first | assumption | omega) (6) rfl (by omega) (by omega) rfl rfl dX1_become_51 ?_
  refine g_aload_n (pc := 54) o 1 dX1_become_54 rfl rfl ?_
  refine g_getR (pc := 55) o flRX1_18 (by first | assumption | rfl) (by first | assumption | omega) (by assumption) dX1_become_55 ?_
  refine g_iconst (pc := 58) (v := 0) o dX1_become_58 (by decide) ?_
  refine g_aload_n (pc := 59) o 0 dX1_become_59 rfl rfl ?_
  refine g_getR (pc := 60) o flRX1_18 (by first | assumption | rfl) (by first | assumption | omega) (by assumption) dX1_become_60 ?_
  refine g_iconst (pc := 63) (v := 0) o dX1_become_63 (by decide) ?_
  refine g_bipush (pc := 64) (v := 6) o dX1_become_64 (by decide) ?_
  refine g_copy (pc := 66) o lkRX1_36 nat_copy st_copy ini_sys (by first | assumption | rfl) (by first | assumption | rfl) (by first | assumption | omega) (by first | assumption | omega) (6) rfl (by omega) (by omega) rfl rfl dX1_become_66 ?_
  exact g_vret (pc := 69) o f dX1_become_69 (hp_M (by funext z j; simp only [st2, bcmM]; grind))

set_option maxHeartbeats 2000000 in
set_option maxRecDepth 20000 in
theorem cX1pass {a c0 w : Nat} {T : Nat → Nat} (ha : a ∈ nows) (ra : RNi Rf a) (hc : c0 = 4 ∨ c0 = 16) (hn : 96 ≤ n) (t1 : T 1 ≤ 6) (t2 : T 2 ≤ 6) (m1 : M c0 1 = nI (T 1)) (m5 : M c0 5 = nI (T 2)) (hw : w < 256) : Ret Λ (d + 2) mX1_pass [.ref a, .ref c0, .int (nI w)] (n, M, Rf, Lg) none (n, passM M a w (T 2) (T 1), Rf, Lg) 0 0 := by
  refine Ret.of rfl rfl rfl (fun κ o f hin => ?_)
  obtain ⟨y0, y1, y2, y3, ylt⟩ := now_shp ha
  obtain ⟨u3, u4, u5⟩ := id ra
  have ymod := now_mod ha
  obtain ⟨z0, z1, z2, z3, z4, z5, z6, z7, z8, z9, z10, z11⟩ := city_shp hc
  have loop : ∀ k c : Nat, c ≤ T 2 → T 2 < c + k → G (Λ, κ) 14 [some (.ref a), some (.ref c0), some (.int (nI w)), some (.int (nI c))] [] (n, rowM (tireM M (a + 1) w (a + 1)) (a + 3) c (fun j => M (a + 3) j + nI (bn (w.testBit j))), Rf, Lg) 0 0 := by
    intro k
    induction k with
    | zero => intro c h1 h2; exact absurd h2 (by omega)
    | succ k ih =>
      intro c h1 h2
      have m5x : rowM (tireM M (a + 1) w (a + 1)) (a + 3) c (fun j => M (a + 3) j + nI (bn (w.testBit j))) c0 5 = nI (T 2) := by rw [← m5]; simp only [rowM, tireM]; grind
      refine g_iload_n (pc := 14) o 3 dX1_pass_14 rfl rfl ?_
      refine g_aload_n (pc := 15) o 1 dX1_pass_15 rfl rfl ?_
      refine g_getI (pc := 16) o flRX1_46 (by first | assumption | rfl) (by first | assumption | omega) dX1_pass_16 ?_
      refine g_icmp_ge (pc := 19) o 42 dX1_pass_19 (by decide) (fun q19 => ?_) (fun q19 => ?_)
      · have ec : c = T 2 := by have := (le_N (a := T 2) (b := c) (by omega) (by omega) m5x rfl).mp q19; omega
        refine g_iload_n (pc := 42) o 2 dX1_pass_42 rfl rfl ?_
        refine g_S1i (pc := 43) o lkRX1_49 cmJ6_bitCount_0f7a4 (cbc (by omega)) rfl rfl ⟨Nat.le_refl _, Nat.le_refl _⟩ dX1_pass_43 ?_
        rw [ec]
        refine g_aload_n (pc := 46) o 1 dX1_pass_46 rfl rfl ?_
        refine g_getI (pc := 47) o flRX1_55 (by first | assumption | rfl) (by first | assumption | omega) dX1_pass_47 ?_
        rw [show rowM (tireM M (a + 1) w (a + 1)) (a + 3) (T 2) (fun j => M (a + 3) j + nI (bn (w.testBit j))) c0 1 = nI (T 1) from by rw [← m1]; simp only [rowM, tireM]; grind]
        have hp := pop_le w
        refine g_icmp_ge (pc := 50) o 63 dX1_pass_50 (by decide) (fun q50 => ?_) (fun q50 => ?_)
        · refine g_aload_n (pc := 63) o 0 dX1_pass_63 rfl rfl ?_
          refine g_dup (pc := 64) o dX1_pass_64 rfl ?_
          refine g_getI (pc := 65) o flRX1_25 (by first | assumption | rfl) (by first | assumption | omega) dX1_pass_65 ?_
          refine g_iconst (pc := 68) (v := 1) o dX1_pass_68 (by decide) ?_
          refine g_iadd (pc := 69) o dX1_pass_69 ?_
          refine g_putI (pc := 70) o flRX1_25 rfl (by first | assumption | rfl) (by first | assumption | omega) rfl rfl dX1_pass_70 ?_
          refine g_aload_n (pc := 73) o 0 dX1_pass_73 rfl rfl ?_
          refine g_getI (pc := 74) o flRX1_25 (by first | assumption | rfl) (by first | assumption | omega) dX1_pass_74 ?_
          refine g_bipush (pc := 77) (v := 8) o dX1_pass_77 (by decide) ?_
          refine g_icmp_lt (pc := 79) o 97 dX1_pass_79 (by decide) (fun q79 => ?_) (fun q79 => ?_)
          · have gq : (pop w < T 1) ↔ ¬ nI (T 1) ≤ nI (pop w) := by rw [le_N (a := T 1) (b := pop w) (by omega) (by omega) rfl rfl]; omega
            exact g_vret (pc := 97) o f dX1_pass_97 (hp_M (by funext z j; simp only [passM, gq]; simp only [st2, rowM, tireM] at *; grind))
          · refine g_aload_n (pc := 82) o 0 dX1_pass_82 rfl rfl ?_
            refine g_iconst (pc := 83) (v := 0) o dX1_pass_83 (by decide) ?_
            refine g_putI (pc := 84) o flRX1_25 rfl (by first | assumption | rfl) (by first | assumption | omega) rfl rfl dX1_pass_84 ?_
            refine g_aload_n (pc := 87) o 0 dX1_pass_87 rfl rfl ?_
            refine g_dup (pc := 88) o dX1_pass_88 rfl ?_
            refine g_getI (pc := 89) o flRX1_21 (by first | assumption | rfl) (by first | assumption | omega) dX1_pass_89 ?_
            refine g_iconst (pc := 92) (v := 1) o dX1_pass_92 (by decide) ?_
            refine g_iadd (pc := 93) o dX1_pass_93 ?_
            refine g_putI (pc := 94) o flRX1_21 rfl (by first | assumption | rfl) (by first | assumption | omega) rfl rfl dX1_pass_94 ?_
            have gq : (pop w < T 1) ↔ ¬ nI (T 1) ≤ nI (pop w) := by rw [le_N (a := T 1) (b := pop w) (by omega) (by omega) rfl rfl]; omega
            exact g_vret (pc := 97) o f dX1_pass_97 (hp_M (by funext z j; simp only [passM, gq]; simp only [st2, rowM, tireM] at *; grind))
        · refine g_aload_n (pc := 53) o 0 dX1_pass_53 rfl rfl ?_
          refine g_dup (pc := 54) o dX1_pass_54 rfl ?_
          refine g_getI (pc := 55) o flRX1_28 (by first | assumption | rfl) (by first | assumption | omega) dX1_pass_55 ?_
          refine g_iconst (pc := 58) (v := 1) o dX1_pass_58 (by decide) ?_
          refine g_iadd (pc := 59) o dX1_pass_59 ?_
          refine g_putI (pc := 60) o flRX1_28 rfl (by first | assumption | rfl) (by first | assumption | omega) rfl rfl dX1_pass_60 ?_
          refine g_aload_n (pc := 63) o 0 dX1_pass_63 rfl rfl ?_
          refine g_dup (pc := 64) o dX1_pass_64 rfl ?_
          refine g_getI (pc := 65) o flRX1_25 (by first | assumption | rfl) (by first | assumption | omega) dX1_pass_65 ?_
          refine g_iconst (pc := 68) (v := 1) o dX1_pass_68 (by decide) ?_
          refine g_iadd (pc := 69) o dX1_pass_69 ?_
          refine g_putI (pc := 70) o flRX1_25 rfl (by first | assumption | rfl) (by first | assumption | omega) rfl rfl dX1_pass_70 ?_
          refine g_aload_n (pc := 73) o 0 dX1_pass_73 rfl rfl ?_
          refine g_getI (pc := 74) o flRX1_25 (by first | assumption | rfl) (by first | assumption | omega) dX1_pass_74 ?_
          refine g_bipush (pc := 77) (v := 8) o dX1_pass_77 (by decide) ?_
          refine g_icmp_lt (pc := 79) o 97 dX1_pass_79 (by decide) (fun q79 => ?_) (fun q79 => ?_)
          · have gq : (pop w < T 1) ↔ ¬ nI (T 1) ≤ nI (pop w) := by rw [le_N (a := T 1) (b := pop w) (by omega) (by omega) rfl rfl]; omega
            exact g_vret (pc := 97) o f dX1_pass_97 (hp_M (by funext z j; simp only [passM, gq]; simp only [st2, rowM, tireM] at *; grind))
          · refine g_aload_n (pc := 82) o 0 dX1_pass_82 rfl rfl ?_
            refine g_iconst (pc := 83) (v := 0) o dX1_pass_83 (by decide) ?_
            refine g_putI (pc := 84) o flRX1_25 rfl (by first | assumption | rfl) (by first | assumption | omega) rfl rfl dX1_pass_84 ?_
            refine g_aload_n (pc := 87) o 0 dX1_pass_87 rfl rfl ?_
            refine g_dup (pc := 88) o dX1_pass_88 rfl ?_
            refine g_getI (pc := 89) o flRX1_21 (by first | assumption | rfl) (by first | assumption | omega) dX1_pass_89 ?_
            refine g_iconst (pc := 92) (v := 1) o dX1_pass_92 (by decide) ?_
            refine g_iadd (pc := 93) o dX1_pass_93 ?_
            refine g_putI (pc := 94) o flRX1_21 rfl (by first | assumption | rfl) (by first | assumption | omega) rfl rfl dX1_pass_94 ?_
            have gq : (pop w < T 1) ↔ ¬ nI (T 1) ≤ nI (pop w) := by rw [le_N (a := T 1) (b := pop w) (by omega) (by omega) rfl rfl]; omega
            exact g_vret (pc := 97) o f dX1_pass_97 (hp_M (by funext z j; simp only [passM, gq]; simp only [st2, rowM, tireM] at *; grind))
      · have hc1 : c < T 2 := by have := mt (le_N (a := T 2) (b := c) (by omega) (by omega) m5x rfl).mpr q19; omega
        refine g_aload_n (pc := 22) o 0 dX1_pass_22 rfl rfl ?_
        refine g_getR (pc := 23) o flRX1_18 (by first | assumption | rfl) (by first | assumption | omega) (by assumption) dX1_pass_23 ?_
        refine g_iload_n (pc := 26) o 3 dX1_pass_26 rfl rfl ?_
        refine g_dup2 (pc := 27) o dX1_pass_27 rfl rfl ?_
        refine g_iald (pc := 28) o (c) (by first | assumption | rfl) (by first | assumption | omega) rfl (by omega) dX1_pass_28 ?_
        rw [rowM_at]
        refine g_iload_n (pc := 29) o 2 dX1_pass_29 rfl rfl ?_
        refine g_iload_n (pc := 30) o 3 dX1_pass_30 rfl rfl ?_
        refine g_ishr (pc := 31) o dX1_pass_31 ?_
        refine g_iconst (pc := 32) (v := 1) o dX1_pass_32 (by decide) ?_
        refine g_iand (pc := 33) o dX1_pass_33 ?_
        rw [n_bit (by omega) (by omega)]
        refine g_iadd (pc := 34) o dX1_pass_34 ?_
        refine g_iast (pc := 35) o (c) (by first | assumption | rfl) (by first | assumption | omega) rfl (by omega) dX1_pass_35 ?_
        refine g_incN (pc := 36) o (c) dX1_pass_36 rfl rfl ?_
        refine g_goto (pc := 39) o 14 dX1_pass_39 (by decide) ?_
        exact g_eq rfl rfl rfl (hp_M (rowM_s _ _ _ _ (by simp only [tireM, rowM]; grind))) (ih (c + 1) (by omega) (by omega))
  refine g_aload_n (pc := 0) o 0 dX1_pass_0 rfl rfl ?_
  refine g_getR (pc := 1) o flRX1_9 (by first | assumption | rfl) (by first | assumption | omega) (by assumption) dX1_pass_1 ?_
  refine g_iload_n (pc := 4) o 2 dX1_pass_4 rfl rfl ?_
  refine g_aload_n (pc := 5) o 0 dX1_pass_5 rfl rfl ?_
  refine g_getR (pc := 6) o flRX1_9 (by first | assumption | rfl) (by first | assumption | omega) (by assumption) dX1_pass_6 ?_
  refine g_SN3v (pc := 9) o lkRX1_42 cmX3_tire (cX3tire (by omega) y1 y1 (by omega) (by omega)) rfl rfl ⟨Nat.le_refl _, Nat.le_refl _⟩ dX1_pass_9 ?_
  refine g_iconst (pc := 12) (v := 0) o dX1_pass_12 (by decide) ?_
  refine g_istore_n (pc := 13) o 3 dX1_pass_13 rfl rfl ?_
  exact g_eq rfl rfl rfl (hp_M (rowM_0 _ _ _).symm) (loop (T 2 + 1) 0 (by omega) (by omega))

end M4
end
section
section RULES5
variable {K : KT} {cc : ByteArray} {own : String} {nL d RC RS : Nat} {pc : Nat} {ls : List (Option Value)} {st : List Value} {h : HP} {n : Nat} {M : HM} {Rf : HR} {Lg : HL} {x y : Nat}
def RQE (B : Nat) (D : va_G) (cA : Nat → ClassId) (post : Option Value → HP → Prop) : Array Value → State → Outcome → State → Prop := fun _ st oc t => ∃ v h, post v h ∧ oc = .returned (v.map (rvB B)) ∧ PW B D cA h t.heap ∧ va_F (fun q => B ≤ q) st t
def FinE (K : KT) (ret : Option FieldType) (post : Option Value → HP → Prop) (mc ms : Nat) : Prop := match K with
  | ((_, B, D, cA), (_, _, _, s, _, args, below, meth, _, Q)) => Q = MQ below (RQE B D cA post) args s mc ms (fun q => B ≤ q) ∧ meth.sig.returnType = ret ∧ meth.locks = false
/-- a contract whose end is said by a property -/
def RetE (Λ : PL) (d : Nat) (μ : MT) (As : List Value) (h : HP) (post : Option Value → HP → Prop) (mc ms : Nat) : Prop :=
  Met Λ.1 μ.1 (.code μ.1 μ.2.1 μ.2.2.1 μ.2.2.2 :: gtbl) { frames := d, cells := mc, slots := ms, locals := 40 * d } (va_Pc (As.map (rvB Λ.2.1)) (fun U => PW Λ.2.1 Λ.2.2.1 Λ.2.2.2 h U.heap ∧ KnAll U Λ.2.2.1 Λ.2.2.2)) (RQE Λ.2.1 Λ.2.2.1 Λ.2.2.2 post) mc ms (fun q => Λ.2.1 ≤ q)
theorem e_iret (o : Ok K cc own nL d RC RS) {ty : FieldType} {v : Int32} {post : Option Value → HP → Prop} (f : FinE K (some ty) post x y) (hd : decode cc pc = .ok (.ireturn, 1)) (hn : narrow ty (.int v) = .int v) (hp : post (some (.int v)) h) : G K pc ls [.int v] h x y := by
  obtain ⟨⟨l, B, D, cA⟩, p, e, R, s, m, args, below, meth, c, Q⟩ := K
  intro H locs la hP hS hl
  obtain ⟨f1, f2, f3⟩ := f
  rw [f1]
  exact W.zret o.1 o.2.1 f2 hn (fun t ht hW => ⟨_, _, hp, rfl, by rw [ht]; exact hP, hS.F ht⟩) hS.2.2 hd f3
theorem e_vret (o : Ok K cc own nL d RC RS) {post : Option Value → HP → Prop} (f : FinE K none post x y) (hd : decode cc pc = .ok (.return_, 1)) (hp : post none h) : G K pc ls [] h x y := by
  obtain ⟨⟨l, B, D, cA⟩, p, e, R, s, m, args, below, meth, c, Q⟩ := K
  intro H locs la hP hS hl
  obtain ⟨f1, f2, f3⟩ := f
  rw [f1]
  exact W.vret o.1 o.2.1 f2 (fun t ht hW => ⟨_, _, hp, rfl, by rw [ht]; exact hP, hS.F ht⟩) hS.2.2 hd f3
theorem RetE.of {Λ : PL} {μ : MT} {As : List Value} {post : Option Value → HP → Prop} {mc ms : Nat} (hy : plainName μ.1.cls = true) (hn : Nat.ble As.length μ.2.2.1 = true) (hc : As.all (fun v => v.category == 1) = true)
    (body : ∀ κ : KR, Ok (Λ, κ) μ.2.1 μ.1.cls μ.2.2.1 d mc ms → FinE (Λ, κ) μ.2.2.2 post mc ms → κ.2.2.2.2.2.2.2.1.name = μ.1.name → G (Λ, κ) 0 (As.map some ++ List.replicate (μ.2.2.1 - As.length) none) [] h 0 0) : RetE Λ d μ As h post mc ms := by
  obtain ⟨l, B, D, cA⟩ := Λ
  obtain ⟨yn, code, nl, ret⟩ := μ
  refine Met.ofW (cc := code) (maxL := nl) (ret := ret) hy rfl ?_
  intro p e s m args below meth c s₁ Bd hml hv
  obtain ⟨rfl, hP, hK⟩ := hv
  have hts := atoms_spec (ws := .code yn code nl ret :: gtbl) Bd.pre
  have hn2 : As.length ≤ nl := Nat.le_of_ble_eq_true hn
  have hc2 : ∀ v ∈ As, v.category = 1 := fun v hv => by
    have := List.all_eq_true.mp hc v hv
    simpa using this
  rw [lg_entry_eq]
  exact body (p, e, _, s, m, _, below, meth, c, _) ⟨Bd.exec, Bd.bytes, hml, findClass_of_methodNamed Bd.named, fun w hw => hts w (List.mem_cons_of_mem _ hw), hK, by rw [hP.1]; exact Nat.le_add_right _ _, Nat.le_refl _, Nat.le_refl _, rfl, rfl⟩ ⟨rfl, Bd.returns, Bd.notSynchronized⟩ (name_of_methodNamed Bd.named Bd.method).1 s.heap [] _ hP va_S.rf (lsH.entry B As nl hn2 hc2)
theorem calls_onE {p : Program} {l : Launch} {e : Env} {R : Room} {s : State} {m : MethodId} {args : Array Value} {below : List Frame} {meth : Method} {c : Code} {H : Heap} {locs : List Loc} {cells slots mc ms : Nat} {Q : State → Prop} {la : Array Slot} {rest st0 : List Value} {a : Array Value} {B : Nat} {D : va_G} {cA : Nat → ClassId} {post : Option Value → HP → Prop} (hS : va_S (fun q => B ≤ q) s.heap H locs)
    (hr : va_Run p l e R s m args below meth c H locs cells slots mc ms (F0 m pc la st0) rest (RQE B D cA post a) (fun q => B ≤ q))
    (kk : ∀ (v : Option Value) (h' : HP) (H1 : Heap) (locs1 : List Loc), post v h' → PW B D cA h' H1 → va_S (fun q => B ≤ q) s.heap H1 locs1 → W p l e R s m args below meth c H1 locs1 (cells + mc) (slots + ms) Q (F0 m (pc + 3) la ((v.map (rvB B)).toList ++ rest))) : W p l e R s m args below meth c H locs cells slots Q (F0 m pc la st0) := by
  intro T hT X
  obtain ⟨v9, st₀, t, T', L, h0, X', hL, e1, e2, ⟨v, h', hpo, hv, hp, hz, hk⟩, stp⟩ := hr T hT X
  cases hv
  rw [h0] at hz hk
  obtain ⟨t2, a1, b1⟩ := kk v h' T'.heap (locs ++ L) hpo (by rw [e1]; exact hp)
    ⟨Nat.le_trans hS.1 (by rw [e1]; exact hz), fun q h1 h2 => by rw [e1, hk q (Nat.lt_of_lt_of_le h1 hS.1) h2]; exact hS.2.1 q h1 h2, fun q hq => by
      rcases List.mem_append.mp hq with h | h
      · exact hS.2.2 q h
      · exact hL q h⟩ T' rfl X'
  exact ⟨t2, stp t2 a1, b1⟩
theorem e_callV (o : Ok K cc own nL (d + 1) RC RS) {idx k t a N : Nat} {μ : MT} {As : List Value} {post : Option Value → HP → Prop} {mc ms : Nat} (lk : LV own idx μ t) (cm : CM μ k) (hM : RetE K.1 d μ (.ref a :: As) h post mc ms) (hk : As.length = k) (hs : shp a = (t, N)) (ha : a < h.1) (hls : ls.length = nL) (hst : Nat.ble (st.map fun v => v.category).sum 8 = true) (hxy : x + mc ≤ RC ∧ y + ms ≤ RS) (hd : decode cc pc = .ok (.invokevirtual idx, 3)) (k : ∀ v h', post v h' → G K (pc + 3) ls (v.toList ++ st) h' (x + mc) (y + ms)) : G K pc ls (As.reverse ++ .ref a :: st) h x y := by
  obtain ⟨⟨l, B, D, cA⟩, p, e, R, s, m, args, below, meth, c, Q⟩ := K
  intro H locs la hP hS hl
  obtain ⟨o1, o2, o3, o4, o5, o6, o7, o8, o9, o10, o11⟩ := o
  obtain ⟨k1, k2, k3, k4, k5⟩ := lk
  obtain ⟨cell, q1, q2, q3, -⟩ := (wE_obj hs k1).mp (hP.2 a ha)
  have hcl := (o6.1 t k1).2.1
  refine calls_onE (mc := mc) (ms := ms) (post := post) (rest := st.map (rvB B)) hS (va_runV (As := As.map (rvB B)) (rest := st.map (rvB B)) (C := cnm t) (b := B + a) ⟨o1, o2, o3, o4, o5⟩ hM ⟨cb_of o5 cm k3 o8 o9, o5 _ k4, by rw [k2]; exact o5 _ k5⟩ ⟨blind, ⟨cell, q1, by rw [q3]; rfl, by rw [q2]; exact hcl⟩, fun U hU hW => ⟨rfl, by rw [hU]; exact hP, o6.warm hW⟩⟩ rfl (by simpa using hk) (by show la.size = nL; rw [hl.1, hls]) (by simp [rvB]) (room_st hst) hd ⟨by rw [o10]; exact hxy.1, by rw [o11]; exact hxy.2⟩) (fun v h' H1 locs1 hpo g1 g2 => ?_)
  have := k v h' hpo H1 locs1 la g1 g2 hl
  rw [List.map_append] at this
  cases v <;> exact this
/-- the answer an int, the heap's ints alone may change -/
def pI (n : Nat) (Rf : HR) (Lg : HL) (post : Int32 → HM → Prop) : Option Value → HP → Prop := fun v h => ∃ r M', v = some (.int r) ∧ h = (n, M', Rf, Lg) ∧ post r M'
def pV (n : Nat) (Rf : HR) (Lg : HL) (post : HM → Prop) : Option Value → HP → Prop := fun v h => ∃ M', v = none ∧ h = (n, M', Rf, Lg) ∧ post M'
theorem pI.of {post : Int32 → HM → Prop} {r : Int32} (hp : post r M) : pI n Rf Lg post (some (.int r)) (n, M, Rf, Lg) := ⟨r, M, rfl, rfl, hp⟩
theorem pV.of {post : HM → Prop} (hp : post M) : pV n Rf Lg post none (n, M, Rf, Lg) := ⟨M, rfl, rfl, hp⟩

theorem e_V0i (o : Ok K cc own nL (d + 1) RC RS) {idx t a N : Nat} {μ : MT} {post : Int32 → HM → Prop} (lk : LV own idx μ t) (cm : CM μ 0) (hM : RetE K.1 d μ [.ref a] (n, M, Rf, Lg) (pI n Rf Lg post) 0 0) (hs : shp a = (t, N)) (ha : a < n) (hls : ls.length = nL) (hst : Nat.ble (st.map fun v => v.category).sum 8 = true) (hxy : x ≤ RC ∧ y ≤ RS) (hd : decode cc pc = .ok (.invokevirtual idx, 3)) (k : ∀ r M', post r M' → G K (pc + 3) ls (.int r :: st) (n, M', Rf, Lg) x y) : G K pc ls (.ref a :: st) (n, M, Rf, Lg) x y :=
  e_callV (As := []) o lk cm hM rfl hs ha hls hst hxy hd (fun v h' hp => by obtain ⟨r, M', rfl, rfl, hq⟩ := hp; exact k r M' hq)
theorem e_V0v (o : Ok K cc own nL (d + 1) RC RS) {idx t a N : Nat} {μ : MT} {post : HM → Prop} (lk : LV own idx μ t) (cm : CM μ 0) (hM : RetE K.1 d μ [.ref a] (n, M, Rf, Lg) (pV n Rf Lg post) 0 0) (hs : shp a = (t, N)) (ha : a < n) (hls : ls.length = nL) (hst : Nat.ble (st.map fun v => v.category).sum 8 = true) (hxy : x ≤ RC ∧ y ≤ RS) (hd : decode cc pc = .ok (.invokevirtual idx, 3)) (k : ∀ M', post M' → G K (pc + 3) ls st (n, M', Rf, Lg) x y) : G K pc ls (.ref a :: st) (n, M, Rf, Lg) x y :=
  e_callV (As := []) o lk cm hM rfl hs ha hls hst hxy hd (fun v h' hp => by obtain ⟨M', rfl, rfl, hq⟩ := hp; exact k M' hq)
theorem e_V1i (o : Ok K cc own nL (d + 1) RC RS) {idx t a N : Nat} {μ : MT} {a1 : Value} {post : Int32 → HM → Prop} (lk : LV own idx μ t) (cm : CM μ 1) (hM : RetE K.1 d μ [.ref a, a1] (n, M, Rf, Lg) (pI n Rf Lg post) 0 0) (hs : shp a = (t, N)) (ha : a < n) (hls : ls.length = nL) (hst : Nat.ble (st.map fun v => v.category).sum 8 = true) (hxy : x ≤ RC ∧ y ≤ RS) (hd : decode cc pc = .ok (.invokevirtual idx, 3)) (k : ∀ r M', post r M' → G K (pc + 3) ls (.int r :: st) (n, M', Rf, Lg) x y) : G K pc ls (a1 :: .ref a :: st) (n, M, Rf, Lg) x y :=
  e_callV (As := [a1]) o lk cm hM rfl hs ha hls hst hxy hd (fun v h' hp => by obtain ⟨r, M', rfl, rfl, hq⟩ := hp; exact k r M' hq)
theorem e_V1v (o : Ok K cc own nL (d + 1) RC RS) {idx t a N : Nat} {μ : MT} {a1 : Value} {post : HM → Prop} (lk : LV own idx μ t) (cm : CM μ 1) (hM : RetE K.1 d μ [.ref a, a1] (n, M, Rf, Lg) (pV n Rf Lg post) 0 0) (hs : shp a = (t, N)) (ha : a < n) (hls : ls.length = nL) (hst : Nat.ble (st.map fun v => v.category).sum 8 = true) (hxy : x ≤ RC ∧ y ≤ RS) (hd : decode cc pc = .ok (.invokevirtual idx, 3)) (k : ∀ M', post M' → G K (pc + 3) ls st (n, M', Rf, Lg) x y) : G K pc ls (a1 :: .ref a :: st) (n, M, Rf, Lg) x y :=
  e_callV (As := [a1]) o lk cm hM rfl hs ha hls hst hxy hd (fun v h' hp => by obtain ⟨M', rfl, rfl, hq⟩ := hp; exact k M' hq)
theorem e_V2i (o : Ok K cc own nL (d + 1) RC RS) {idx t a N : Nat} {μ : MT} {a1 a2 : Value} {post : Int32 → HM → Prop} (lk : LV own idx μ t) (cm : CM μ 2) (hM : RetE K.1 d μ [.ref a, a1, a2] (n, M, Rf, Lg) (pI n Rf Lg post) 0 0) (hs : shp a = (t, N)) (ha : a < n) (hls : ls.length = nL) (hst : Nat.ble (st.map fun v => v.category).sum 8 = true) (hxy : x ≤ RC ∧ y ≤ RS) (hd : decode cc pc = .ok (.invokevirtual idx, 3)) (k : ∀ r M', post r M' → G K (pc + 3) ls (.int r :: st) (n, M', Rf, Lg) x y) : G K pc ls (a2 :: a1 :: .ref a :: st) (n, M, Rf, Lg) x y :=
  e_callV (As := [a1, a2]) o lk cm hM rfl hs ha hls hst hxy hd (fun v h' hp => by obtain ⟨r, M', rfl, rfl, hq⟩ := hp; exact k r M' hq)
theorem e_V2v (o : Ok K cc own nL (d + 1) RC RS) {idx t a N : Nat} {μ : MT} {a1 a2 : Value} {post : HM → Prop} (lk : LV own idx μ t) (cm : CM μ 2) (hM : RetE K.1 d μ [.ref a, a1, a2] (n, M, Rf, Lg) (pV n Rf Lg post) 0 0) (hs : shp a = (t, N)) (ha : a < n) (hls : ls.length = nL) (hst : Nat.ble (st.map fun v => v.category).sum 8 = true) (hxy : x ≤ RC ∧ y ≤ RS) (hd : decode cc pc = .ok (.invokevirtual idx, 3)) (k : ∀ M', post M' → G K (pc + 3) ls st (n, M', Rf, Lg) x y) : G K pc ls (a2 :: a1 :: .ref a :: st) (n, M, Rf, Lg) x y :=
  e_callV (As := [a1, a2]) o lk cm hM rfl hs ha hls hst hxy hd (fun v h' hp => by obtain ⟨M', rfl, rfl, hq⟩ := hp; exact k M' hq)
theorem e_V3i (o : Ok K cc own nL (d + 1) RC RS) {idx t a N : Nat} {μ : MT} {a1 a2 a3 : Value} {post : Int32 → HM → Prop} (lk : LV own idx μ t) (cm : CM μ 3) (hM : RetE K.1 d μ [.ref a, a1, a2, a3] (n, M, Rf, Lg) (pI n Rf Lg post) 0 0) (hs : shp a = (t, N)) (ha : a < n) (hls : ls.length = nL) (hst : Nat.ble (st.map fun v => v.category).sum 8 = true) (hxy : x ≤ RC ∧ y ≤ RS) (hd : decode cc pc = .ok (.invokevirtual idx, 3)) (k : ∀ r M', post r M' → G K (pc + 3) ls (.int r :: st) (n, M', Rf, Lg) x y) : G K pc ls (a3 :: a2 :: a1 :: .ref a :: st) (n, M, Rf, Lg) x y :=
  e_callV (As := [a1, a2, a3]) o lk cm hM rfl hs ha hls hst hxy hd (fun v h' hp => by obtain ⟨r, M', rfl, rfl, hq⟩ := hp; exact k r M' hq)
theorem e_V3v (o : Ok K cc own nL (d + 1) RC RS) {idx t a N : Nat} {μ : MT} {a1 a2 a3 : Value} {post : HM → Prop} (lk : LV own idx μ t) (cm : CM μ 3) (hM : RetE K.1 d μ [.ref a, a1, a2, a3] (n, M, Rf, Lg) (pV n Rf Lg post) 0 0) (hs : shp a = (t, N)) (ha : a < n) (hls : ls.length = nL) (hst : Nat.ble (st.map fun v => v.category).sum 8 = true) (hxy : x ≤ RC ∧ y ≤ RS) (hd : decode cc pc = .ok (.invokevirtual idx, 3)) (k : ∀ M', post M' → G K (pc + 3) ls st (n, M', Rf, Lg) x y) : G K pc ls (a3 :: a2 :: a1 :: .ref a :: st) (n, M, Rf, Lg) x y :=
  e_callV (As := [a1, a2, a3]) o lk cm hM rfl hs ha hls hst hxy hd (fun v h' hp => by obtain ⟨M', rfl, rfl, hq⟩ := hp; exact k M' hq)
theorem e_V4i (o : Ok K cc own nL (d + 1) RC RS) {idx t a N : Nat} {μ : MT} {a1 a2 a3 a4 : Value} {post : Int32 → HM → Prop} (lk : LV own idx μ t) (cm : CM μ 4) (hM : RetE K.1 d μ [.ref a, a1, a2, a3, a4] (n, M, Rf, Lg) (pI n Rf Lg post) 0 0) (hs : shp a = (t, N)) (ha : a < n) (hls : ls.length = nL) (hst : Nat.ble (st.map fun v => v.category).sum 8 = true) (hxy : x ≤ RC ∧ y ≤ RS) (hd : decode cc pc = .ok (.invokevirtual idx, 3)) (k : ∀ r M', post r M' → G K (pc + 3) ls (.int r :: st) (n, M', Rf, Lg) x y) : G K pc ls (a4 :: a3 :: a2 :: a1 :: .ref a :: st) (n, M, Rf, Lg) x y :=
  e_callV (As := [a1, a2, a3, a4]) o lk cm hM rfl hs ha hls hst hxy hd (fun v h' hp => by obtain ⟨r, M', rfl, rfl, hq⟩ := hp; exact k r M' hq)
theorem e_V4v (o : Ok K cc own nL (d + 1) RC RS) {idx t a N : Nat} {μ : MT} {a1 a2 a3 a4 : Value} {post : HM → Prop} (lk : LV own idx μ t) (cm : CM μ 4) (hM : RetE K.1 d μ [.ref a, a1, a2, a3, a4] (n, M, Rf, Lg) (pV n Rf Lg post) 0 0) (hs : shp a = (t, N)) (ha : a < n) (hls : ls.length = nL) (hst : Nat.ble (st.map fun v => v.category).sum 8 = true) (hxy : x ≤ RC ∧ y ≤ RS) (hd : decode cc pc = .ok (.invokevirtual idx, 3)) (k : ∀ M', post M' → G K (pc + 3) ls st (n, M', Rf, Lg) x y) : G K pc ls (a4 :: a3 :: a2 :: a1 :: .ref a :: st) (n, M, Rf, Lg) x y :=
  e_callV (As := [a1, a2, a3, a4]) o lk cm hM rfl hs ha hls hst hxy hd (fun v h' hp => by obtain ⟨M', rfl, rfl, hq⟩ := hp; exact k M' hq)
end RULES5
end
section
section M5
variable {Λ : PL} {d n : Nat} {M : HM} {Rf : HR} {Lg : HL}

abbrev inn (v : Int32) (N : Nat) : Prop := 0 ≤ v.toInt ∧ v.toInt < (N : Int)
theorem inn_of {v : Int32} {N : Nat} (h : inn v N) (hN : N < 2147483648) : ∃ j, j < N ∧ v = nI j := vp_in_of (vp_in_iff.mpr h) hN
theorem inn_nI {j N : Nat} (h : j < N) (hN : N < 2147483648) : inn (nI j) N := vp_in_iff.mp (vp_in_nI h hN)
theorem sw_cases (v : Int32) (N : Nat) (hN : N < 2147483648) : (v.toInt < 0 ∨ (N : Int) - 1 < v.toInt) ∨ ∃ k, k < N ∧ v = nI k := by
  by_cases h : inn v N
  · exact Or.inr (inn_of h hN)
  · left
    unfold inn at h
    omega
theorem inn_neg {v : Int32} {N : Nat} (h : v.toInt < 0 ∨ (N : Int) - 1 < v.toInt) : ¬ inn v N := by unfold inn; omega
/-- a table of answers -/
def tbv (v : Int32) (N : Nat) (f : Nat → Int32) (z : Int32) : Int32 := if inn v N then f v.toNatClampNeg else z
theorem tbv_in {j N : Nat} {f : Nat → Int32} {z : Int32} (h : j < N) (hN : N < 2147483648) : tbv (nI j) N f z = f j := by
  unfold tbv; rw [if_pos (inn_nI h hN), nI_clamp (by omega)]
theorem tbv_out {v : Int32} {N : Nat} {f : Nat → Int32} {z : Int32} (h : ¬ inn v N) : tbv v N f z = z := if_neg h
theorem inn_lt {v : Int32} {N : Nat} (hN : N < 2147483648) {x : Int32} (hx : x = nI N) (h0 : ¬ v < 0) (h : v < x) : inn v N := by
  rw [hx, Int32.lt_iff_toInt_lt, nI_toInt hN] at h
  rw [Int32.lt_iff_toInt_lt] at h0
  exact ⟨by simpa using h0, h⟩
theorem inn_ge {v : Int32} {N : Nat} (hN : N < 2147483648) {x : Int32} (hx : x = nI N) (h : x ≤ v) : ¬ inn v N := by
  rw [hx, Int32.le_iff_toInt_le, nI_toInt hN] at h
  unfold inn; omega
theorem inn_lt0 {v : Int32} {N : Nat} (h : v < 0) : ¬ inn v N := by
  rw [Int32.lt_iff_toInt_lt] at h
  have : v.toInt < 0 := by simpa using h
  unfold inn; omega
theorem inn_le {v : Int32} {N : Nat} {x : Int32} (hN : N < 2147483647) (hx : x = nI N) (h0 : ¬ v < 0) (h : v ≤ x) : inn v (N + 1) := by
  rw [hx, Int32.le_iff_toInt_le, nI_toInt (by omega)] at h
  rw [Int32.lt_iff_toInt_lt] at h0
  exact ⟨by simpa using h0, by omega⟩
theorem inn_gt {v : Int32} {N : Nat} {x : Int32} (hN : N < 2147483647) (hx : x = nI N) (h : x < v) : ¬ inn v (N + 1) := by
  rw [hx, Int32.lt_iff_toInt_lt, nI_toInt (by omega)] at h
  unfold inn; omega
def RX (Rf : HR) (t : Nat) : Prop := Rf 0 0 = some 1 ∧ Rf 0 1 = some t ∧ Rf 0 3 = some 28 ∧ Rf 0 4 = some 32 ∧ Rf 0 5 = some 36 ∧ Rf 0 8 = some 37 ∧ Rf 0 9 = some 38 ∧ Rf 0 10 = some 39 ∧ Rf 0 11 = some 40 ∧ Rf 0 13 = some 41 ∧ Rf 0 14 = some 42 ∧ Rf 0 15 = some 47 ∧ (∀ a ∈ nows, RNi Rf a) ∧ RCi Rf 4 ∧ RCi Rf 16 ∧ (∀ i, i < 10 → Rf 36 i = some (48 + 4 * i)) ∧ (∀ i, i < 2 → Rf 37 i = some (88 + 4 * i)) ∧ (∀ i, i < 4 → Rf 42 i = some (43 + i)) ∧ Rf 1 0 = some 2 ∧ Rf 1 6 = some 3
/-- the class's own, as far as the answers go: city, present -/
def XB (M : HM) (Rf : HR) (n t : Nat) (T S : Nat → Nat) (b : Nat) : Prop := RX Rf t ∧ (t = 4 ∨ t = 16) ∧ 96 ≤ n ∧ okT T ∧ cyT M t T ∧ cyR M t T ∧ nwS M 28 S (T 2) ∧ okS S (T 2) b ∧ b ≤ 1000
theorem RX.city {Rf : HR} {t : Nat} (h : RX Rf t) (ht : t = 4 ∨ t = 16) : RCi Rf t := by
  rcases ht with rfl | rfl
  · exact h.2.2.2.2.2.2.2.2.2.2.2.2.2.1
  · exact h.2.2.2.2.2.2.2.2.2.2.2.2.2.2.1
theorem RX.now {Rf : HR} {t : Nat} (h : RX Rf t) {a : Nat} (ha : a ∈ nows) : RNi Rf a := h.2.2.2.2.2.2.2.2.2.2.2.2.1 a ha
theorem in28 : 28 ∈ nows := by decide
theorem in32 : 32 ∈ nows := by decide

set_option maxHeartbeats 2000000 in
set_option maxRecDepth 20000 in
theorem cX3isCitizen {t b : Nat} {T S : Nat → Nat} (xb : XB M Rf n t T S b) {v : Int32} : Ret Λ (d) mX3_isCitizen [.ref 0, .int v] (n, M, Rf, Lg) (some (.int (bi (inn v (T 2))))) (n, M, Rf, Lg) 0 0 := by
  refine Ret.of rfl rfl rfl (fun κ o f hin => ?_)
  obtain ⟨hx, hc, hn, ht, hm, hr, hs, os, hb9⟩ := id xb
  have rc := hx.city hc
  obtain ⟨x0, x1, x3, x4, x5, x8, x9, x10, x11, x13, x14, x15, xN, xC4, xC16, xP, xI, xT, xL, xNm⟩ := id hx
  obtain ⟨r3, r4, r6, r7, r8, r9, r11, r12, r13, r14, r15⟩ := id rc
  obtain ⟨z0, z1, z2, z3, z4, z5, z6, z7, z8, z9, z10, z11⟩ := city_shp hc
  obtain ⟨⟨t0, t0b⟩, t1, t2, t3, tD, tC, tN⟩ := id ht
  obtain ⟨m0, m1, m5, m10, mb, mj, mc, mn, ml⟩ := id hm
  have ra := xN 28 in28
  have rt := xN 32 in32
  obtain ⟨u3, u4, u5⟩ := id ra
  obtain ⟨v3, v4, v5⟩ := id rt
  obtain ⟨s0, s1, s2, sc⟩ := id hs
  obtain ⟨os0, os1, os2, osc⟩ := id os
  refine g_iload_n (pc := 0) o 1 dX3_isCitizen_0 rfl rfl ?_
  refine g_if_lt (pc := 1) o 19 dX3_isCitizen_1 (by decide) (fun q1 => ?_) (fun q1 => ?_)
  · refine g_iconst (pc := 19) (v := 0) o dX3_isCitizen_19 (by decide) ?_
    exact g_iret (pc := 20) o f dX3_isCitizen_20 rfl (by first | exact (bi_t (inn_lt (by omega) m5 q1 (Int32.not_le.mp q12))).symm | exact (bi_f (inn_ge (by omega) m5 q12)).symm | exact (bi_f (inn_lt0 q1)).symm) rfl
  · refine g_iload_n (pc := 4) o 1 dX3_isCitizen_4 rfl rfl ?_
    refine g_aload_n (pc := 5) o 0 dX3_isCitizen_5 rfl rfl ?_
    refine g_getR (pc := 6) o flRX3_19 (by first | assumption | rfl) (by first | assumption | omega) (by assumption) dX3_isCitizen_6 ?_
    refine g_getI (pc := 9) o flRX3_146 (by first | assumption | rfl) (by first | assumption | omega) dX3_isCitizen_9 ?_
    refine g_icmp_ge (pc := 12) o 19 dX3_isCitizen_12 (by decide) (fun q12 => ?_) (fun q12 => ?_)
    · refine g_iconst (pc := 19) (v := 0) o dX3_isCitizen_19 (by decide) ?_
      exact g_iret (pc := 20) o f dX3_isCitizen_20 rfl (by first | exact (bi_t (inn_lt (by omega) m5 q1 (Int32.not_le.mp q12))).symm | exact (bi_f (inn_ge (by omega) m5 q12)).symm | exact (bi_f (inn_lt0 q1)).symm) rfl
    · refine g_iconst (pc := 15) (v := 1) o dX3_isCitizen_15 (by decide) ?_
      refine g_goto (pc := 16) o 20 dX3_isCitizen_16 (by decide) ?_
      exact g_iret (pc := 20) o f dX3_isCitizen_20 rfl (by first | exact (bi_t (inn_lt (by omega) m5 q1 (Int32.not_le.mp q12))).symm | exact (bi_f (inn_ge (by omega) m5 q12)).symm | exact (bi_f (inn_lt0 q1)).symm) rfl

set_option maxHeartbeats 2000000 in
set_option maxRecDepth 20000 in
theorem cX3isDistrict {t b : Nat} {T S : Nat → Nat} (xb : XB M Rf n t T S b) {v : Int32} : Ret Λ (d) mX3_isDistrict [.ref 0, .int v] (n, M, Rf, Lg) (some (.int (bi (inn v (T 0))))) (n, M, Rf, Lg) 0 0 := by
  refine Ret.of rfl rfl rfl (fun κ o f hin => ?_)
  obtain ⟨hx, hc, hn, ht, hm, hr, hs, os, hb9⟩ := id xb
  have rc := hx.city hc
  obtain ⟨x0, x1, x3, x4, x5, x8, x9, x10, x11, x13, x14, x15, xN, xC4, xC16, xP, xI, xT, xL, xNm⟩ := id hx
  obtain ⟨r3, r4, r6, r7, r8, r9, r11, r12, r13, r14, r15⟩ := id rc
  obtain ⟨z0, z1, z2, z3, z4, z5, z6, z7, z8, z9, z10, z11⟩ := city_shp hc
  obtain ⟨⟨t0, t0b⟩, t1, t2, t3, tD, tC, tN⟩ := id ht
  obtain ⟨m0, m1, m5, m10, mb, mj, mc, mn, ml⟩ := id hm
  have ra := xN 28 in28
  have rt := xN 32 in32
  obtain ⟨u3, u4, u5⟩ := id ra
  obtain ⟨v3, v4, v5⟩ := id rt
  obtain ⟨s0, s1, s2, sc⟩ := id hs
  obtain ⟨os0, os1, os2, osc⟩ := id os
  refine g_iload_n (pc := 0) o 1 dX3_isDistrict_0 rfl rfl ?_
  refine g_if_lt (pc := 1) o 19 dX3_isDistrict_1 (by decide) (fun q1 => ?_) (fun q1 => ?_)
  · refine g_iconst (pc := 19) (v := 0) o dX3_isDistrict_19 (by decide) ?_
    exact g_iret (pc := 20) o f dX3_isDistrict_20 rfl (by first | exact (bi_t (inn_lt (by omega) m0 q1 (Int32.not_le.mp q12))).symm | exact (bi_f (inn_ge (by omega) m0 q12)).symm | exact (bi_f (inn_lt0 q1)).symm) rfl
  · refine g_iload_n (pc := 4) o 1 dX3_isDistrict_4 rfl rfl ?_
    refine g_aload_n (pc := 5) o 0 dX3_isDistrict_5 rfl rfl ?_
    refine g_getR (pc := 6) o flRX3_19 (by first | assumption | rfl) (by first | assumption | omega) (by assumption) dX3_isDistrict_6 ?_
    refine g_getI (pc := 9) o flRX3_149 (by first | assumption | rfl) (by first | assumption | omega) dX3_isDistrict_9 ?_
    refine g_icmp_ge (pc := 12) o 19 dX3_isDistrict_12 (by decide) (fun q12 => ?_) (fun q12 => ?_)
    · refine g_iconst (pc := 19) (v := 0) o dX3_isDistrict_19 (by decide) ?_
      exact g_iret (pc := 20) o f dX3_isDistrict_20 rfl (by first | exact (bi_t (inn_lt (by omega) m0 q1 (Int32.not_le.mp q12))).symm | exact (bi_f (inn_ge (by omega) m0 q12)).symm | exact (bi_f (inn_lt0 q1)).symm) rfl
    · refine g_iconst (pc := 15) (v := 1) o dX3_isDistrict_15 (by decide) ?_
      refine g_goto (pc := 16) o 20 dX3_isDistrict_16 (by decide) ?_
      exact g_iret (pc := 20) o f dX3_isDistrict_20 rfl (by first | exact (bi_t (inn_lt (by omega) m0 q1 (Int32.not_le.mp q12))).symm | exact (bi_f (inn_ge (by omega) m0 q12)).symm | exact (bi_f (inn_lt0 q1)).symm) rfl

def aDistrict (T : Nat → Nat) (v w : Int32) : Int32 := tbv v (T 0) (fun j => if w = 0 then nI (T (10 + j)) else if w = 1 then nI (T (6 + j)) else -1) (-1)
set_option maxHeartbeats 2000000 in
set_option maxRecDepth 20000 in
theorem cX3district {t b : Nat} {T S : Nat → Nat} (xb : XB M Rf n t T S b) {v w : Int32} : Ret Λ (d + 1) mX3_district [.ref 0, .int v, .int w] (n, M, Rf, Lg) (some (.int (aDistrict T v w))) (n, M, Rf, Lg) 0 0 := by
  refine Ret.of rfl rfl rfl (fun κ o f hin => ?_)
  obtain ⟨hx, hc, hn, ht, hm, hr, hs, os, hb9⟩ := id xb
  have rc := hx.city hc
  obtain ⟨x0, x1, x3, x4, x5, x8, x9, x10, x11, x13, x14, x15, xN, xC4, xC16, xP, xI, xT, xL, xNm⟩ := id hx
  obtain ⟨r3, r4, r6, r7, r8, r9, r11, r12, r13, r14, r15⟩ := id rc
  obtain ⟨z0, z1, z2, z3, z4, z5, z6, z7, z8, z9, z10, z11⟩ := city_shp hc
  obtain ⟨⟨t0, t0b⟩, t1, t2, t3, tD, tC, tN⟩ := id ht
  obtain ⟨m0, m1, m5, m10, mb, mj, mc, mn, ml⟩ := id hm
  have ra := xN 28 in28
  have rt := xN 32 in32
  obtain ⟨u3, u4, u5⟩ := id ra
  obtain ⟨v3, v4, v5⟩ := id rt
  obtain ⟨s0, s1, s2, sc⟩ := id hs
  obtain ⟨os0, os1, os2, osc⟩ := id os
  refine g_aload_n (pc := 0) o 0 dX3_district_0 rfl rfl ?_
  refine g_iload_n (pc := 1) o 1 dX3_district_1 rfl rfl ?_
  refine g_V1i (pc := 2) o lkRX3_87 cmX3_isDistrict (cX3isDistrict xb) (by first | assumption | rfl) (by first | assumption | omega) rfl rfl ⟨Nat.le_refl _, Nat.le_refl _⟩ dX3_district_2 ?_
  refine g_if_ne (pc := 5) o 10 dX3_district_5 (by decide) (fun q5 => ?_) (fun q5 => ?_)
  · obtain ⟨j, hj, rfl⟩ := inn_of (bi_nz.mp q5) (by omega)
    refine g_iload_n (pc := 10) o 2 dX3_district_10 rfl rfl ?_
    by_cases e0 : w = 0
    · subst e0
      refine g_look (pc := 11) o 36 dX3_district_11 (by decide) rfl (by decide) ?_
      refine g_aload_n (pc := 36) o 0 dX3_district_36 rfl rfl ?_
      refine g_getR (pc := 37) o flRX3_19 (by first | assumption | rfl) (by first | assumption | omega) (by assumption) dX3_district_37 ?_
      refine g_getR (pc := 40) o flRX3_91 (by first | assumption | rfl) (by first | assumption | omega) (by assumption) dX3_district_40 ?_
      refine g_iload_n (pc := 43) o 1 dX3_district_43 rfl rfl ?_
      refine g_iald (pc := 44) o (j) (by first | assumption | rfl) (by first | assumption | omega) rfl (by omega) dX3_district_44 ?_
      exact g_iret (pc := 45) o f dX3_district_45 rfl (by rw [mb j (by omega)]; unfold aDistrict; rw [tbv_in hj (by omega)]; rfl) rfl
    · by_cases e1 : w = 1
      · subst e1
        refine g_look (pc := 11) o 46 dX3_district_11 (by decide) rfl (by decide) ?_
        refine g_aload_n (pc := 46) o 0 dX3_district_46 rfl rfl ?_
        refine g_getR (pc := 47) o flRX3_19 (by first | assumption | rfl) (by first | assumption | omega) (by assumption) dX3_district_47 ?_
        refine g_getR (pc := 50) o flRX3_94 (by first | assumption | rfl) (by first | assumption | omega) (by assumption) dX3_district_50 ?_
        refine g_iload_n (pc := 53) o 1 dX3_district_53 rfl rfl ?_
        refine g_iald (pc := 54) o (j) (by first | assumption | rfl) (by first | assumption | omega) rfl (by omega) dX3_district_54 ?_
        exact g_iret (pc := 55) o f dX3_district_55 rfl (by rw [mj j (by omega)]; unfold aDistrict; rw [tbv_in hj (by omega)]; rfl) rfl
      · refine g_look (pc := 11) (off := 45) o 56 dX3_district_11 (by decide) (by rw [show (#[((0 : Int), (25 : Int)), (1, 35)] : Array (Int × Int)).toList = [(0, 25), (1, 35)] from rfl, lv_osw (a := 0) e0 (by decide), lv_osw (a := 1) e1 (by decide)]; rfl) (by decide) ?_
        refine g_iconst (pc := 56) (v := -1) o dX3_district_56 (by decide) ?_
        exact g_iret (pc := 57) o f dX3_district_57 rfl (by unfold aDistrict; rw [tbv_in hj (by omega), if_neg e0, if_neg e1]) rfl
  · refine g_iconst (pc := 8) (v := -1) o dX3_district_8 (by decide) ?_
    exact g_iret (pc := 9) o f dX3_district_9 rfl (by unfold aDistrict; rw [tbv_out (bi_z.mp q5)]) rfl

def fCit (T S : Nat → Nat) (j k : Nat) : Int32 := match k with
  | 0 => nI (T (14 + j))
  | 1 => nI (S (3 + j))
  | 2 => nI (T (26 + j))
  | 3 => nI (T (32 + j))
  | 4 => nI (S (9 + j))
  | _ => nI (S (15 + j))
def aCitizen (T S : Nat → Nat) (v w : Int32) : Int32 := tbv v (T 2) (fun j => tbv w 6 (fCit T S j) (-1)) (-1)
set_option maxHeartbeats 2000000 in
set_option maxRecDepth 20000 in
theorem cX3citizen {t b : Nat} {T S : Nat → Nat} (xb : XB M Rf n t T S b) {v w : Int32} : Ret Λ (d + 1) mX3_citizen [.ref 0, .int v, .int w] (n, M, Rf, Lg) (some (.int (aCitizen T S v w))) (n, M, Rf, Lg) 0 0 := by
  refine Ret.of rfl rfl rfl (fun κ o f hin => ?_)
  obtain ⟨hx, hc, hn, ht, hm, hr, hs, os, hb9⟩ := id xb
  have rc := hx.city hc
  obtain ⟨x0, x1, x3, x4, x5, x8, x9, x10, x11, x13, x14, x15, xN, xC4, xC16, xP, xI, xT, xL, xNm⟩ := id hx
  obtain ⟨r3, r4, r6, r7, r8, r9, r11, r12, r13, r14, r15⟩ := id rc
  obtain ⟨z0, z1, z2, z3, z4, z5, z6, z7, z8, z9, z10, z11⟩ := city_shp hc
  obtain ⟨⟨t0, t0b⟩, t1, t2, t3, tD, tC, tN⟩ := id ht
  obtain ⟨m0, m1, m5, m10, mb, mj, mc, mn, ml⟩ := id hm
  have ra := xN 28 in28
  have rt := xN 32 in32
  obtain ⟨u3, u4, u5⟩ := id ra
  obtain ⟨v3, v4, v5⟩ := id rt
  obtain ⟨s0, s1, s2, sc⟩ := id hs
  obtain ⟨os0, os1, os2, osc⟩ := id os
  refine g_aload_n (pc := 0) o 0 dX3_citizen_0 rfl rfl ?_
  refine g_iload_n (pc := 1) o 1 dX3_citizen_1 rfl rfl ?_
  refine g_V1i (pc := 2) o lkRX3_97 cmX3_isCitizen (cX3isCitizen xb) (by first | assumption | rfl) (by first | assumption | omega) rfl rfl ⟨Nat.le_refl _, Nat.le_refl _⟩ dX3_citizen_2 ?_
  refine g_if_ne (pc := 5) o 10 dX3_citizen_5 (by decide) (fun q5 => ?_) (fun q5 => ?_)
  · obtain ⟨j, hj, rfl⟩ := inn_of (bi_nz.mp q5) (by omega)
    refine g_iload_n (pc := 10) o 2 dX3_citizen_10 rfl rfl ?_
    rcases sw_cases w 6 (by decide) with hsw | ⟨kk, hkk, rfl⟩
    · refine g_tabO (pc := 11) o 108 dX3_citizen_11 (by first | exact hsw | omega) (by decide) ?_
      refine g_iconst (pc := 108) (v := -1) o dX3_citizen_108 (by decide) ?_
      exact g_iret (pc := 109) o f dX3_citizen_109 rfl (by unfold aCitizen; rw [tbv_in hj (by omega), tbv_out (inn_neg hsw)]) rfl
    · match kk, hkk with
      | 0, _ =>
        refine g_tabI (pc := 11) o 48 dX3_citizen_11 (by decide) (by decide) rfl (by decide) ?_
        refine g_aload_n (pc := 48) o 0 dX3_citizen_48 rfl rfl ?_
        refine g_getR (pc := 49) o flRX3_19 (by first | assumption | rfl) (by first | assumption | omega) (by assumption) dX3_citizen_49 ?_
        refine g_getR (pc := 52) o flRX3_100 (by first | assumption | rfl) (by first | assumption | omega) (by assumption) dX3_citizen_52 ?_
        refine g_iload_n (pc := 55) o 1 dX3_citizen_55 rfl rfl ?_
        refine g_iald (pc := 56) o (j) (by first | assumption | rfl) (by first | assumption | omega) rfl (by omega) dX3_citizen_56 ?_
        exact g_iret (pc := 57) o f dX3_citizen_57 rfl (by rw [(mc j hj).1]; unfold aCitizen; rw [tbv_in hj (by omega), tbv_in (by decide) (by decide)]; rfl) rfl
      | 1, _ =>
        refine g_tabI (pc := 11) o 58 dX3_citizen_11 (by decide) (by decide) rfl (by decide) ?_
        refine g_aload_n (pc := 58) o 0 dX3_citizen_58 rfl rfl ?_
        refine g_getR (pc := 59) o flRX3_29 (by first | assumption | rfl) (by first | assumption | omega) (by assumption) dX3_citizen_59 ?_
        refine g_getR (pc := 62) o flRX3_103 (by first | assumption | rfl) (by first | assumption | omega) (by assumption) dX3_citizen_62 ?_
        refine g_iload_n (pc := 65) o 1 dX3_citizen_65 rfl rfl ?_
        refine g_iald (pc := 66) o (j) (by first | assumption | rfl) (by first | assumption | omega) rfl (by omega) dX3_citizen_66 ?_
        exact g_iret (pc := 67) o f dX3_citizen_67 rfl (by rw [(sc j hj).1]; unfold aCitizen; rw [tbv_in hj (by omega), tbv_in (by decide) (by decide)]; rfl) rfl
      | 2, _ =>
        refine g_tabI (pc := 11) o 68 dX3_citizen_11 (by decide) (by decide) rfl (by decide) ?_
        refine g_aload_n (pc := 68) o 0 dX3_citizen_68 rfl rfl ?_
        refine g_getR (pc := 69) o flRX3_19 (by first | assumption | rfl) (by first | assumption | omega) (by assumption) dX3_citizen_69 ?_
        refine g_getR (pc := 72) o flRX3_106 (by first | assumption | rfl) (by first | assumption | omega) (by assumption) dX3_citizen_72 ?_
        refine g_iload_n (pc := 75) o 1 dX3_citizen_75 rfl rfl ?_
        refine g_iald (pc := 76) o (j) (by first | assumption | rfl) (by first | assumption | omega) rfl (by omega) dX3_citizen_76 ?_
        exact g_iret (pc := 77) o f dX3_citizen_77 rfl (by rw [(mc j hj).2.2.1]; unfold aCitizen; rw [tbv_in hj (by omega), tbv_in (by decide) (by decide)]; rfl) rfl
      | 3, _ =>
        refine g_tabI (pc := 11) o 78 dX3_citizen_11 (by decide) (by decide) rfl (by decide) ?_
        refine g_aload_n (pc := 78) o 0 dX3_citizen_78 rfl rfl ?_
        refine g_getR (pc := 79) o flRX3_19 (by first | assumption | rfl) (by first | assumption | omega) (by assumption) dX3_citizen_79 ?_
        refine g_getR (pc := 82) o flRX3_109 (by first | assumption | rfl) (by first | assumption | omega) (by assumption) dX3_citizen_82 ?_
        refine g_iload_n (pc := 85) o 1 dX3_citizen_85 rfl rfl ?_
        refine g_iald (pc := 86) o (j) (by first | assumption | rfl) (by first | assumption | omega) rfl (by omega) dX3_citizen_86 ?_
        exact g_iret (pc := 87) o f dX3_citizen_87 rfl (by rw [(mc j hj).2.2.2]; unfold aCitizen; rw [tbv_in hj (by omega), tbv_in (by decide) (by decide)]; rfl) rfl
      | 4, _ =>
        refine g_tabI (pc := 11) o 88 dX3_citizen_11 (by decide) (by decide) rfl (by decide) ?_
        refine g_aload_n (pc := 88) o 0 dX3_citizen_88 rfl rfl ?_
        refine g_getR (pc := 89) o flRX3_29 (by first | assumption | rfl) (by first | assumption | omega) (by assumption) dX3_citizen_89 ?_
        refine g_getR (pc := 92) o flRX3_112 (by first | assumption | rfl) (by first | assumption | omega) (by assumption) dX3_citizen_92 ?_
        refine g_iload_n (pc := 95) o 1 dX3_citizen_95 rfl rfl ?_
        refine g_iald (pc := 96) o (j) (by first | assumption | rfl) (by first | assumption | omega) rfl (by omega) dX3_citizen_96 ?_
        exact g_iret (pc := 97) o f dX3_citizen_97 rfl (by rw [(sc j hj).2.1]; unfold aCitizen; rw [tbv_in hj (by omega), tbv_in (by decide) (by decide)]; rfl) rfl
      | 5, _ =>
        refine g_tabI (pc := 11) o 98 dX3_citizen_11 (by decide) (by decide) rfl (by decide) ?_
        refine g_aload_n (pc := 98) o 0 dX3_citizen_98 rfl rfl ?_
        refine g_getR (pc := 99) o flRX3_29 (by first | assumption | rfl) (by first | assumption | omega) (by assumption) dX3_citizen_99 ?_
        refine g_getR (pc := 102) o flRX3_115 (by first | assumption | rfl) (by first | assumption | omega) (by assumption) dX3_citizen_102 ?_
        refine g_iload_n (pc := 105) o 1 dX3_citizen_105 rfl rfl ?_
        refine g_iald (pc := 106) o (j) (by first | assumption | rfl) (by first | assumption | omega) rfl (by omega) dX3_citizen_106 ?_
        exact g_iret (pc := 107) o f dX3_citizen_107 rfl (by rw [(sc j hj).2.2]; unfold aCitizen; rw [tbv_in hj (by omega), tbv_in (by decide) (by decide)]; rfl) rfl
  · refine g_iconst (pc := 8) (v := -1) o dX3_citizen_8 (by decide) ?_
    exact g_iret (pc := 9) o f dX3_citizen_9 rfl (by unfold aCitizen; rw [tbv_out (bi_z.mp q5)]) rfl

def fNoi (T : Nat → Nat) (j k : Nat) : Int32 := nI (T (38 + 6 * k + j))
def aNoise (T : Nat → Nat) (v w : Int32) : Int32 := tbv v (T 3) (fun j => tbv w 3 (fNoi T j) (-1)) (-1)
set_option maxHeartbeats 2000000 in
set_option maxRecDepth 20000 in
theorem cX3noise {t b : Nat} {T S : Nat → Nat} (xb : XB M Rf n t T S b) {v w : Int32} : Ret Λ (d) mX3_noise [.ref 0, .int v, .int w] (n, M, Rf, Lg) (some (.int (aNoise T v w))) (n, M, Rf, Lg) 0 0 := by
  refine Ret.of rfl rfl rfl (fun κ o f hin => ?_)
  obtain ⟨hx, hc, hn, ht, hm, hr, hs, os, hb9⟩ := id xb
  have rc := hx.city hc
  obtain ⟨x0, x1, x3, x4, x5, x8, x9, x10, x11, x13, x14, x15, xN, xC4, xC16, xP, xI, xT, xL, xNm⟩ := id hx
  obtain ⟨r3, r4, r6, r7, r8, r9, r11, r12, r13, r14, r15⟩ := id rc
  obtain ⟨z0, z1, z2, z3, z4, z5, z6, z7, z8, z9, z10, z11⟩ := city_shp hc
  obtain ⟨⟨t0, t0b⟩, t1, t2, t3, tD, tC, tN⟩ := id ht
  obtain ⟨m0, m1, m5, m10, mb, mj, mc, mn, ml⟩ := id hm
  have ra := xN 28 in28
  have rt := xN 32 in32
  obtain ⟨u3, u4, u5⟩ := id ra
  obtain ⟨v3, v4, v5⟩ := id rt
  obtain ⟨s0, s1, s2, sc⟩ := id hs
  obtain ⟨os0, os1, os2, osc⟩ := id os
  refine g_iload_n (pc := 0) o 1 dX3_noise_0 rfl rfl ?_
  refine g_if_lt (pc := 1) o 15 dX3_noise_1 (by decide) (fun q1 => ?_) (fun q1 => ?_)
  · refine g_iconst (pc := 15) (v := -1) o dX3_noise_15 (by decide) ?_
    exact g_iret (pc := 16) o f dX3_noise_16 rfl (by unfold aNoise; first | rw [tbv_out (inn_lt0 q1)] | rw [tbv_out (inn_ge (by omega) m10 (Int32.not_lt.mp q12))]) rfl
  · refine g_iload_n (pc := 4) o 1 dX3_noise_4 rfl rfl ?_
    refine g_aload_n (pc := 5) o 0 dX3_noise_5 rfl rfl ?_
    refine g_getR (pc := 6) o flRX3_19 (by first | assumption | rfl) (by first | assumption | omega) (by assumption) dX3_noise_6 ?_
    refine g_getI (pc := 9) o flRX3_118 (by first | assumption | rfl) (by first | assumption | omega) dX3_noise_9 ?_
    refine g_icmp_lt (pc := 12) o 17 dX3_noise_12 (by decide) (fun q12 => ?_) (fun q12 => ?_)
    · obtain ⟨j, hj, rfl⟩ := inn_of (inn_lt (by omega) m10 q1 q12) (by omega)
      refine g_iload_n (pc := 17) o 2 dX3_noise_17 rfl rfl ?_
      rcases sw_cases w 3 (by decide) with hsw | ⟨kk, hkk, rfl⟩
      · refine g_tabO (pc := 18) o 74 dX3_noise_18 (by first | exact hsw | omega) (by decide) ?_
        refine g_iconst (pc := 74) (v := -1) o dX3_noise_74 (by decide) ?_
        exact g_iret (pc := 75) o f dX3_noise_75 rfl (by unfold aNoise; rw [tbv_in hj (by omega), tbv_out (inn_neg hsw)]) rfl
      · match kk, hkk with
        | 0, _ =>
          refine g_tabI (pc := 18) o 44 dX3_noise_18 (by decide) (by decide) rfl (by decide) ?_
          refine g_aload_n (pc := 44) o 0 dX3_noise_44 rfl rfl ?_
          refine g_getR (pc := 45) o flRX3_19 (by first | assumption | rfl) (by first | assumption | omega) (by assumption) dX3_noise_45 ?_
          refine g_getR (pc := 48) o flRX3_121 (by first | assumption | rfl) (by first | assumption | omega) (by assumption) dX3_noise_48 ?_
          refine g_iload_n (pc := 51) o 1 dX3_noise_51 rfl rfl ?_
          refine g_iald (pc := 52) o (j) (by first | assumption | rfl) (by first | assumption | omega) rfl (by omega) dX3_noise_52 ?_
          exact g_iret (pc := 53) o f dX3_noise_53 rfl (by rw [(mn j hj).1]; unfold aNoise; rw [tbv_in hj (by omega), tbv_in (by decide) (by decide)]; rfl) rfl
        | 1, _ =>
          refine g_tabI (pc := 18) o 54 dX3_noise_18 (by decide) (by decide) rfl (by decide) ?_
          refine g_aload_n (pc := 54) o 0 dX3_noise_54 rfl rfl ?_
          refine g_getR (pc := 55) o flRX3_19 (by first | assumption | rfl) (by first | assumption | omega) (by assumption) dX3_noise_55 ?_
          refine g_getR (pc := 58) o flRX3_124 (by first | assumption | rfl) (by first | assumption | omega) (by assumption) dX3_noise_58 ?_
          refine g_iload_n (pc := 61) o 1 dX3_noise_61 rfl rfl ?_
          refine g_iald (pc := 62) o (j) (by first | assumption | rfl) (by first | assumption | omega) rfl (by omega) dX3_noise_62 ?_
          exact g_iret (pc := 63) o f dX3_noise_63 rfl (by rw [(mn j hj).2.1]; unfold aNoise; rw [tbv_in hj (by omega), tbv_in (by decide) (by decide)]; rfl) rfl
        | 2, _ =>
          refine g_tabI (pc := 18) o 64 dX3_noise_18 (by decide) (by decide) rfl (by decide) ?_
          refine g_aload_n (pc := 64) o 0 dX3_noise_64 rfl rfl ?_
          refine g_getR (pc := 65) o flRX3_19 (by first | assumption | rfl) (by first | assumption | omega) (by assumption) dX3_noise_65 ?_
          refine g_getR (pc := 68) o flRX3_127 (by first | assumption | rfl) (by first | assumption | omega) (by assumption) dX3_noise_68 ?_
          refine g_iload_n (pc := 71) o 1 dX3_noise_71 rfl rfl ?_
          refine g_iald (pc := 72) o (j) (by first | assumption | rfl) (by first | assumption | omega) rfl (by omega) dX3_noise_72 ?_
          exact g_iret (pc := 73) o f dX3_noise_73 rfl (by rw [(mn j hj).2.2]; unfold aNoise; rw [tbv_in hj (by omega), tbv_in (by decide) (by decide)]; rfl) rfl
    · refine g_iconst (pc := 15) (v := -1) o dX3_noise_15 (by decide) ?_
      exact g_iret (pc := 16) o f dX3_noise_16 rfl (by unfold aNoise; first | rw [tbv_out (inn_lt0 q1)] | rw [tbv_out (inn_ge (by omega) m10 (Int32.not_lt.mp q12))]) rfl

/-- the first of those that slept most, least, of the first k -/
def mst (lt : Nat → Nat → Bool) (S : Nat → Nat) : Nat → Option Nat
  | 0 => none
  | k + 1 => match mst lt S k with
    | none => some k
    | some b => if lt (S (15 + b)) (S (15 + k)) then some k else some b
def opI (o : Option Nat) : Int32 := match o with
  | none => -9
  | some b => nI b
theorem mst_lt (lt : Nat → Nat → Bool) (S : Nat → Nat) : ∀ k b, mst lt S k = some b → b < k := by
  intro k
  induction k with
  | zero => intro b h; cases h
  | succ k ih =>
    intro b h
    simp only [mst] at h
    cases e : mst lt S k with
    | none => rw [e] at h; cases h; omega
    | some b0 =>
      rw [e] at h
      have := ih b0 e
      dsimp only at h
      split at h <;> cases h <;> omega
def ltB (a b : Nat) : Bool := decide (a < b)
def gtB (a b : Nat) : Bool := decide (b < a)
theorem opI_ne {b : Nat} (h : b < 1000) : ¬ opI (some b) = -9 := by
  intro q
  have h2 : (nI b).toInt = (-9 : Int32).toInt := congrArg Int32.toInt q
  rw [nI_toInt (by omega)] at h2
  have : (-9 : Int32).toInt = -9 := by decide
  omega
set_option maxHeartbeats 2000000 in
set_option maxRecDepth 20000 in
theorem cX3sleptMost {t b : Nat} {T S : Nat → Nat} (xb : XB M Rf n t T S b) : Ret Λ (d) mX3_sleptMost [.ref 0] (n, M, Rf, Lg) (some (.int (opI (mst ltB S (T 2))))) (n, M, Rf, Lg) 0 0 := by
  refine Ret.of rfl rfl rfl (fun κ o f hin => ?_)
  obtain ⟨hx, hc, hn, ht, hm, hr, hs, os, hb9⟩ := id xb
  have rc := hx.city hc
  obtain ⟨x0, x1, x3, x4, x5, x8, x9, x10, x11, x13, x14, x15, xN, xC4, xC16, xP, xI, xT, xL, xNm⟩ := id hx
  obtain ⟨r3, r4, r6, r7, r8, r9, r11, r12, r13, r14, r15⟩ := id rc
  obtain ⟨z0, z1, z2, z3, z4, z5, z6, z7, z8, z9, z10, z11⟩ := city_shp hc
  obtain ⟨⟨t0, t0b⟩, t1, t2, t3, tD, tC, tN⟩ := id ht
  obtain ⟨m0, m1, m5, m10, mb, mj, mc, mn, ml⟩ := id hm
  have ra := xN 28 in28
  have rt := xN 32 in32
  obtain ⟨u3, u4, u5⟩ := id ra
  obtain ⟨v3, v4, v5⟩ := id rt
  obtain ⟨s0, s1, s2, sc⟩ := id hs
  obtain ⟨os0, os1, os2, osc⟩ := id os
  have loop : ∀ k c : Nat, c ≤ T 2 → T 2 < c + k → G (Λ, κ) 5 [some (.ref 0), some (.int (opI (mst ltB S c))), some (.int (nI c))] [] (n, M, Rf, Lg) 0 0 := by
    intro k
    induction k with
    | zero => intro c h1 h2; exact absurd h2 (by omega)
    | succ k ih =>
      intro c h1 h2
      refine g_iload_n (pc := 5) o 2 dX3_sleptMost_5 rfl rfl ?_
      refine g_aload_n (pc := 6) o 0 dX3_sleptMost_6 rfl rfl ?_
      refine g_getR (pc := 7) o flRX3_19 (by first | assumption | rfl) (by first | assumption | omega) (by assumption) dX3_sleptMost_7 ?_
      refine g_getI (pc := 10) o flRX3_146 (by first | assumption | rfl) (by first | assumption | omega) dX3_sleptMost_10 ?_
      refine g_icmp_ge (pc := 13) o 51 dX3_sleptMost_13 (by decide) (fun q13 => ?_) (fun q13 => ?_)
      · have ec : c = T 2 := by have := (le_N (a := T 2) (b := c) (by omega) (by omega) m5 rfl).mp q13; omega
        refine g_iload_n (pc := 51) o 1 dX3_sleptMost_51 rfl rfl ?_
        exact g_iret (pc := 52) o f dX3_sleptMost_52 rfl (by rw [ec]) rfl
      · have hc1 : c < T 2 := by have := mt (le_N (a := T 2) (b := c) (by omega) (by omega) m5 rfl).mpr q13; omega
        refine g_iload_n (pc := 16) o 1 dX3_sleptMost_16 rfl rfl ?_
        refine g_bipush (pc := 17) (v := -9) o dX3_sleptMost_17 (by decide) ?_
        refine g_icmp_eq (pc := 19) o 43 dX3_sleptMost_19 (by decide) (fun q19 => ?_) (fun q19 => ?_)
        · have e1 : mst ltB S (c + 1) = some c := by
            simp only [mst]; cases e : mst ltB S c with
            | none => rfl
            | some b0 => rw [e] at q19; have hb0 := mst_lt _ _ _ _ e; exact absurd q19 (opI_ne (by omega))
          refine g_iload_n (pc := 43) o 2 dX3_sleptMost_43 rfl rfl ?_
          refine g_istore_n (pc := 44) o 1 dX3_sleptMost_44 rfl rfl ?_
          refine g_incN (pc := 45) o (c) dX3_sleptMost_45 rfl rfl ?_
          refine g_goto (pc := 48) o 5 dX3_sleptMost_48 (by decide) ?_
          refine g_eq rfl ?_ rfl rfl (ih (c + 1) (by omega) (by omega))
          rw [e1]; rfl
        · obtain ⟨b0, e0⟩ : ∃ b0, mst ltB S c = some b0 := by
            cases e : mst ltB S c with
            | none => rw [e] at q19; exact absurd rfl q19
            | some b0 => exact ⟨b0, rfl⟩
          have hb0 := mst_lt _ _ _ _ e0
          have g1 := osc c hc1
          have g2 := osc b0 (by omega)
          rw [show opI (mst ltB S c) = nI b0 from by rw [e0]; rfl]
          refine g_aload_n (pc := 22) o 0 dX3_sleptMost_22 rfl rfl ?_
          refine g_getR (pc := 23) o flRX3_29 (by first | assumption | rfl) (by first | assumption | omega) (by assumption) dX3_sleptMost_23 ?_
          refine g_getR (pc := 26) o flRX3_115 (by first | assumption | rfl) (by first | assumption | omega) (by assumption) dX3_sleptMost_26 ?_
          refine g_iload_n (pc := 29) o 2 dX3_sleptMost_29 rfl rfl ?_
          refine g_iald (pc := 30) o (c) (by first | assumption | rfl) (by first | assumption | omega) rfl (by omega) dX3_sleptMost_30 ?_
          rw [(sc c hc1).2.2]
          refine g_aload_n (pc := 31) o 0 dX3_sleptMost_31 rfl rfl ?_
          refine g_getR (pc := 32) o flRX3_29 (by first | assumption | rfl) (by first | assumption | omega) (by assumption) dX3_sleptMost_32 ?_
          refine g_getR (pc := 35) o flRX3_115 (by first | assumption | rfl) (by first | assumption | omega) (by assumption) dX3_sleptMost_35 ?_
          refine g_iload_n (pc := 38) o 1 dX3_sleptMost_38 rfl rfl ?_
          refine g_iald (pc := 39) o (b0) (by first | assumption | rfl) (by first | assumption | omega) rfl (by omega) dX3_sleptMost_39 ?_
          rw [(sc b0 (by omega)).2.2]
          refine g_icmp_le (pc := 40) o 45 dX3_sleptMost_40 (by decide) (fun q40 => ?_) (fun q40 => ?_)
          · have e1 : mst ltB S (c + 1) = some b0 := by simp only [mst, e0]; rw [if_neg]; have := (le_N (by omega) (by omega) rfl rfl).mp q40; simp [ltB]; omega
            refine g_incN (pc := 45) o (c) dX3_sleptMost_45 rfl rfl ?_
            refine g_goto (pc := 48) o 5 dX3_sleptMost_48 (by decide) ?_
            refine g_eq rfl ?_ rfl rfl (ih (c + 1) (by omega) (by omega))
            rw [e1]; rfl
          · have e1 : mst ltB S (c + 1) = some c := by simp only [mst, e0]; rw [if_pos]; have := mt (le_N (by omega) (by omega) rfl rfl).mpr q40; simp [ltB]; omega
            refine g_iload_n (pc := 43) o 2 dX3_sleptMost_43 rfl rfl ?_
            refine g_istore_n (pc := 44) o 1 dX3_sleptMost_44 rfl rfl ?_
            refine g_incN (pc := 45) o (c) dX3_sleptMost_45 rfl rfl ?_
            refine g_goto (pc := 48) o 5 dX3_sleptMost_48 (by decide) ?_
            refine g_eq rfl ?_ rfl rfl (ih (c + 1) (by omega) (by omega))
            rw [e1]; rfl
  refine g_bipush (pc := 0) (v := -9) o dX3_sleptMost_0 (by decide) ?_
  refine g_istore_n (pc := 2) o 1 dX3_sleptMost_2 rfl rfl ?_
  refine g_iconst (pc := 3) (v := 0) o dX3_sleptMost_3 (by decide) ?_
  refine g_istore_n (pc := 4) o 2 dX3_sleptMost_4 rfl rfl ?_
  exact loop (T 2 + 1) 0 (by omega) (by omega)

set_option maxHeartbeats 2000000 in
set_option maxRecDepth 20000 in
theorem cX3sleptLeast {t b : Nat} {T S : Nat → Nat} (xb : XB M Rf n t T S b) : Ret Λ (d) mX3_sleptLeast [.ref 0] (n, M, Rf, Lg) (some (.int (opI (mst gtB S (T 2))))) (n, M, Rf, Lg) 0 0 := by
  refine Ret.of rfl rfl rfl (fun κ o f hin => ?_)
  obtain ⟨hx, hc, hn, ht, hm, hr, hs, os, hb9⟩ := id xb
  have rc := hx.city hc
  obtain ⟨x0, x1, x3, x4, x5, x8, x9, x10, x11, x13, x14, x15, xN, xC4, xC16, xP, xI, xT, xL, xNm⟩ := id hx
  obtain ⟨r3, r4, r6, r7, r8, r9, r11, r12, r13, r14, r15⟩ := id rc
  obtain ⟨z0, z1, z2, z3, z4, z5, z6, z7, z8, z9, z10, z11⟩ := city_shp hc
  obtain ⟨⟨t0, t0b⟩, t1, t2, t3, tD, tC, tN⟩ := id ht
  obtain ⟨m0, m1, m5, m10, mb, mj, mc, mn, ml⟩ := id hm
  have ra := xN 28 in28
  have rt := xN 32 in32
  obtain ⟨u3, u4, u5⟩ := id ra
  obtain ⟨v3, v4, v5⟩ := id rt
  obtain ⟨s0, s1, s2, sc⟩ := id hs
  obtain ⟨os0, os1, os2, osc⟩ := id os
  have loop : ∀ k c : Nat, c ≤ T 2 → T 2 < c + k → G (Λ, κ) 5 [some (.ref 0), some (.int (opI (mst gtB S c))), some (.int (nI c))] [] (n, M, Rf, Lg) 0 0 := by
    intro k
    induction k with
    | zero => intro c h1 h2; exact absurd h2 (by omega)
    | succ k ih =>
      intro c h1 h2
      refine g_iload_n (pc := 5) o 2 dX3_sleptLeast_5 rfl rfl ?_
      refine g_aload_n (pc := 6) o 0 dX3_sleptLeast_6 rfl rfl ?_
      refine g_getR (pc := 7) o flRX3_19 (by first | assumption | rfl) (by first | assumption | omega) (by assumption) dX3_sleptLeast_7 ?_
      refine g_getI (pc := 10) o flRX3_146 (by first | assumption | rfl) (by first | assumption | omega) dX3_sleptLeast_10 ?_
      refine g_icmp_ge (pc := 13) o 51 dX3_sleptLeast_13 (by decide) (fun q13 => ?_) (fun q13 => ?_)
      · have ec : c = T 2 := by have := (le_N (a := T 2) (b := c) (by omega) (by omega) m5 rfl).mp q13; omega
        refine g_iload_n (pc := 51) o 1 dX3_sleptLeast_51 rfl rfl ?_
        exact g_iret (pc := 52) o f dX3_sleptLeast_52 rfl (by rw [ec]) rfl
      · have hc1 : c < T 2 := by have := mt (le_N (a := T 2) (b := c) (by omega) (by omega) m5 rfl).mpr q13; omega
        refine g_iload_n (pc := 16) o 1 dX3_sleptLeast_16 rfl rfl ?_
        refine g_bipush (pc := 17) (v := -9) o dX3_sleptLeast_17 (by decide) ?_
        refine g_icmp_eq (pc := 19) o 43 dX3_sleptLeast_19 (by decide) (fun q19 => ?_) (fun q19 => ?_)
        · have e1 : mst gtB S (c + 1) = some c := by
            simp only [mst]; cases e : mst gtB S c with
            | none => rfl
            | some b0 => rw [e] at q19; have hb0 := mst_lt _ _ _ _ e; exact absurd q19 (opI_ne (by omega))
          refine g_iload_n (pc := 43) o 2 dX3_sleptLeast_43 rfl rfl ?_
          refine g_istore_n (pc := 44) o 1 dX3_sleptLeast_44 rfl rfl ?_
          refine g_incN (pc := 45) o (c) dX3_sleptLeast_45 rfl rfl ?_
          refine g_goto (pc := 48) o 5 dX3_sleptLeast_48 (by decide) ?_
          refine g_eq rfl ?_ rfl rfl (ih (c + 1) (by omega) (by omega))
          rw [e1]; rfl
        · obtain ⟨b0, e0⟩ : ∃ b0, mst gtB S c = some b0 := by
            cases e : mst gtB S c with
            | none => rw [e] at q19; exact absurd rfl q19
            | some b0 => exact ⟨b0, rfl⟩
          have hb0 := mst_lt _ _ _ _ e0
          have g1 := osc c hc1
          have g2 := osc b0 (by omega)
          rw [show opI (mst gtB S c) = nI b0 from by rw [e0]; rfl]
          refine g_aload_n (pc := 22) o 0 dX3_sleptLeast_22 rfl rfl ?_
          refine g_getR (pc := 23) o flRX3_29 (by first | assumption | rfl) (by first | assumption | omega) (by assumption) dX3_sleptLeast_23 ?_
          refine g_getR (pc := 26) o flRX3_115 (by first | assumption | rfl) (by first | assumption | omega) (by assumption) dX3_sleptLeast_26 ?_
          refine g_iload_n (pc := 29) o 2 dX3_sleptLeast_29 rfl rfl ?_
          refine g_iald (pc := 30) o (c) (by first | assumption | rfl) (by first | assumption | omega) rfl (by omega) dX3_sleptLeast_30 ?_
          rw [(sc c hc1).2.2]
          refine g_aload_n (pc := 31) o 0 dX3_sleptLeast_31 rfl rfl ?_
          refine g_getR (pc := 32) o flRX3_29 (by first | assumption | rfl) (by first | assumption | omega) (by assumption) dX3_sleptLeast_32 ?_
          refine g_getR (pc := 35) o flRX3_115 (by first | assumption | rfl) (by first | assumption | omega) (by assumption) dX3_sleptLeast_35 ?_
          refine g_iload_n (pc := 38) o 1 dX3_sleptLeast_38 rfl rfl ?_
          refine g_iald (pc := 39) o (b0) (by first | assumption | rfl) (by first | assumption | omega) rfl (by omega) dX3_sleptLeast_39 ?_
          rw [(sc b0 (by omega)).2.2]
          refine g_icmp_ge (pc := 40) o 45 dX3_sleptLeast_40 (by decide) (fun q40 => ?_) (fun q40 => ?_)
          · have e1 : mst gtB S (c + 1) = some b0 := by simp only [mst, e0]; rw [if_neg]; have := (le_N (by omega) (by omega) rfl rfl).mp q40; simp [gtB]; omega
            refine g_incN (pc := 45) o (c) dX3_sleptLeast_45 rfl rfl ?_
            refine g_goto (pc := 48) o 5 dX3_sleptLeast_48 (by decide) ?_
            refine g_eq rfl ?_ rfl rfl (ih (c + 1) (by omega) (by omega))
            rw [e1]; rfl
          · have e1 : mst gtB S (c + 1) = some c := by simp only [mst, e0]; rw [if_pos]; have := mt (le_N (by omega) (by omega) rfl rfl).mpr q40; simp [gtB]; omega
            refine g_iload_n (pc := 43) o 2 dX3_sleptLeast_43 rfl rfl ?_
            refine g_istore_n (pc := 44) o 1 dX3_sleptLeast_44 rfl rfl ?_
            refine g_incN (pc := 45) o (c) dX3_sleptLeast_45 rfl rfl ?_
            refine g_goto (pc := 48) o 5 dX3_sleptLeast_48 (by decide) ?_
            refine g_eq rfl ?_ rfl rfl (ih (c + 1) (by omega) (by omega))
            rw [e1]; rfl
  refine g_bipush (pc := 0) (v := -9) o dX3_sleptLeast_0 (by decide) ?_
  refine g_istore_n (pc := 2) o 1 dX3_sleptLeast_2 rfl rfl ?_
  refine g_iconst (pc := 3) (v := 0) o dX3_sleptLeast_3 (by decide) ?_
  refine g_istore_n (pc := 4) o 2 dX3_sleptLeast_4 rfl rfl ?_
  exact loop (T 2 + 1) 0 (by omega) (by omega)

end M5
end
section
section M6
variable {Λ : PL} {d n : Nat} {M : HM} {Rf : HR} {Lg : HL}

theorem past_in : ∀ i, i < 10 → 48 + 4 * i ∈ nows := by decide
theorem img_in : ∀ i, i < 2 → 88 + 4 * i ∈ nows := by decide
theorem cyT.kept {M M' : HM} {c : Nat} {T : Nat → Nat} (h : cyT M c T) (e : ∀ z, c ≤ z → z < c + 12 → M' z = M z) : cyT M' c T := by
  obtain ⟨m0, m1, m5, m10, mb, mj, mc, mn, ml⟩ := h
  refine ⟨?_, ?_, ?_, ?_, fun d hd => ?_, fun d hd => ?_, fun i hi => ⟨?_, ?_, ?_, ?_⟩, fun i hi => ⟨?_, ?_, ?_⟩, fun d hd => ?_⟩
  · rw [e c (by omega) (by omega)]; exact m0
  · rw [e c (by omega) (by omega)]; exact m1
  · rw [e c (by omega) (by omega)]; exact m5
  · rw [e c (by omega) (by omega)]; exact m10
  · rw [e _ (by omega) (by omega)]; exact mb d hd
  · rw [e _ (by omega) (by omega)]; exact mj d hd
  · rw [e _ (by omega) (by omega)]; exact (mc i hi).1
  · rw [e _ (by omega) (by omega)]; exact (mc i hi).2.1
  · rw [e _ (by omega) (by omega)]; exact (mc i hi).2.2.1
  · rw [e _ (by omega) (by omega)]; exact (mc i hi).2.2.2
  · rw [e _ (by omega) (by omega)]; exact (mn i hi).1
  · rw [e _ (by omega) (by omega)]; exact (mn i hi).2.1
  · rw [e _ (by omega) (by omega)]; exact (mn i hi).2.2
  · rw [e _ (by omega) (by omega)]; exact ml d hd
theorem nwS.kept {M M' : HM} {a : Nat} {S : Nat → Nat} {C : Nat} (h : nwS M a S C) (e : ∀ z, a ≤ z → z < a + 4 → M' z = M z) : nwS M' a S C := by
  obtain ⟨s0, s1, s2, sc⟩ := h
  refine ⟨?_, ?_, ?_, fun i hi => ⟨?_, ?_, ?_⟩⟩
  · rw [e _ (by omega) (by omega)]; exact s0
  · rw [e _ (by omega) (by omega)]; exact s1
  · rw [e _ (by omega) (by omega)]; exact s2
  · rw [e _ (by omega) (by omega)]; exact (sc i hi).1
  · rw [e _ (by omega) (by omega)]; exact (sc i hi).2.1
  · rw [e _ (by omega) (by omega)]; exact (sc i hi).2.2
theorem XB.kept {M M' : HM} {Rf : HR} {n t b : Nat} {T S : Nat → Nat} (h : XB M Rf n t T S b) (e : ∀ z, 4 ≤ z → z < 32 → M' z = M z) : XB M' Rf n t T S b := by
  obtain ⟨hx, hc, hn, ht, hm, hr, hs, os, hb⟩ := h
  exact ⟨hx, hc, hn, ht, hm.kept (fun z h1 h2 => e z (by omega) (by omega)), fun k hk => by rw [e _ (by omega) (by omega)]; exact hr k hk, hs.kept (fun z h1 h2 => e z (by omega) (by omega)), os, hb⟩
def fNow (T S : Nat → Nat) (pk k : Nat) : Int32 := match k with
  | 0 => nI (S 0)
  | 1 => nI (S 1)
  | 2 => nI (S 2)
  | 3 => opI (mst ltB S (T 2))
  | 4 => opI (mst gtB S (T 2))
  | _ => nI pk
def fCnt (T : Nat → Nat) (cn tl k : Nat) : Int32 := match k with
  | 0 => nI (T 0)
  | 1 => nI (T 1)
  | 2 => nI (T 2)
  | 3 => nI (T 3)
  | 4 => nI cn
  | _ => nI tl
set_option maxHeartbeats 2000000 in
set_option maxRecDepth 20000 in
theorem cX3now {t b : Nat} {T S : Nat → Nat} (xb : XB M Rf n t T S b) {pk : Nat} (hp : M 0 7 = nI pk) {v : Int32} : Ret Λ (d + 1) mX3_now [.ref 0, .int v] (n, M, Rf, Lg) (some (.int (tbv v 6 (fNow T S pk) (-1)))) (n, M, Rf, Lg) 0 0 := by
  refine Ret.of rfl rfl rfl (fun κ o f hin => ?_)
  obtain ⟨hx, hc, hn, ht, hm, hr, hs, os, hb9⟩ := id xb
  have rc := hx.city hc
  obtain ⟨x0, x1, x3, x4, x5, x8, x9, x10, x11, x13, x14, x15, xN, xC4, xC16, xP, xI, xT, xL, xNm⟩ := id hx
  obtain ⟨r3, r4, r6, r7, r8, r9, r11, r12, r13, r14, r15⟩ := id rc
  obtain ⟨z0, z1, z2, z3, z4, z5, z6, z7, z8, z9, z10, z11⟩ := city_shp hc
  obtain ⟨⟨t0, t0b⟩, t1, t2, t3, tD, tC, tN⟩ := id ht
  obtain ⟨m0, m1, m5, m10, mb, mj, mc, mn, ml⟩ := id hm
  have ra := xN 28 in28
  have rt := xN 32 in32
  obtain ⟨u3, u4, u5⟩ := id ra
  obtain ⟨v3, v4, v5⟩ := id rt
  obtain ⟨s0, s1, s2, sc⟩ := id hs
  obtain ⟨os0, os1, os2, osc⟩ := id os
  refine g_iload_n (pc := 0) o 1 dX3_now_0 rfl rfl ?_
  rcases sw_cases v 6 (by decide) with hsw | ⟨kk, hkk, rfl⟩
  · refine g_tabO (pc := 1) o 79 dX3_now_1 (by first | exact hsw | omega) (by decide) ?_
    refine g_iconst (pc := 79) (v := -1) o dX3_now_79 (by decide) ?_
    exact g_iret (pc := 80) o f dX3_now_80 rfl (by rw [tbv_out (inn_neg hsw)]) rfl
  · match kk, hkk with
    | 0, _ =>
      refine g_tabI (pc := 1) o 40 dX3_now_1 (by decide) (by decide) rfl (by decide) ?_
      refine g_aload_n (pc := 40) o 0 dX3_now_40 rfl rfl ?_
      refine g_getR (pc := 41) o flRX3_29 (by first | assumption | rfl) (by first | assumption | omega) (by assumption) dX3_now_41 ?_
      refine g_getI (pc := 44) o flRX3_130 (by first | assumption | rfl) (by first | assumption | omega) dX3_now_44 ?_
      exact g_iret (pc := 47) o f dX3_now_47 rfl (by rw [s0]; rw [tbv_in (by decide) (by decide)]; rfl) rfl
    | 1, _ =>
      refine g_tabI (pc := 1) o 48 dX3_now_1 (by decide) (by decide) rfl (by decide) ?_
      refine g_aload_n (pc := 48) o 0 dX3_now_48 rfl rfl ?_
      refine g_getR (pc := 49) o flRX3_29 (by first | assumption | rfl) (by first | assumption | omega) (by assumption) dX3_now_49 ?_
      refine g_getI (pc := 52) o flRX3_133 (by first | assumption | rfl) (by first | assumption | omega) dX3_now_52 ?_
      exact g_iret (pc := 55) o f dX3_now_55 rfl (by rw [s1]; rw [tbv_in (by decide) (by decide)]; rfl) rfl
    | 2, _ =>
      refine g_tabI (pc := 1) o 56 dX3_now_1 (by decide) (by decide) rfl (by decide) ?_
      refine g_aload_n (pc := 56) o 0 dX3_now_56 rfl rfl ?_
      refine g_getR (pc := 57) o flRX3_29 (by first | assumption | rfl) (by first | assumption | omega) (by assumption) dX3_now_57 ?_
      refine g_getI (pc := 60) o flRX3_136 (by first | assumption | rfl) (by first | assumption | omega) dX3_now_60 ?_
      exact g_iret (pc := 63) o f dX3_now_63 rfl (by rw [s2]; rw [tbv_in (by decide) (by decide)]; rfl) rfl
    | 3, _ =>
      refine g_tabI (pc := 1) o 64 dX3_now_1 (by decide) (by decide) rfl (by decide) ?_
      refine g_aload_n (pc := 64) o 0 dX3_now_64 rfl rfl ?_
      refine g_V0i (pc := 65) o lkRX3_139 cmX3_sleptMost (cX3sleptMost xb) (by first | assumption | rfl) (by first | assumption | omega) rfl rfl ⟨Nat.le_refl _, Nat.le_refl _⟩ dX3_now_65 ?_
      exact g_iret (pc := 68) o f dX3_now_68 rfl (by skip; rw [tbv_in (by decide) (by decide)]; rfl) rfl
    | 4, _ =>
      refine g_tabI (pc := 1) o 69 dX3_now_1 (by decide) (by decide) rfl (by decide) ?_
      refine g_aload_n (pc := 69) o 0 dX3_now_69 rfl rfl ?_
      refine g_V0i (pc := 70) o lkRX3_143 cmX3_sleptLeast (cX3sleptLeast xb) (by first | assumption | rfl) (by first | assumption | omega) rfl rfl ⟨Nat.le_refl _, Nat.le_refl _⟩ dX3_now_70 ?_
      exact g_iret (pc := 73) o f dX3_now_73 rfl (by skip; rw [tbv_in (by decide) (by decide)]; rfl) rfl
    | 5, _ =>
      refine g_tabI (pc := 1) o 74 dX3_now_1 (by decide) (by decide) rfl (by decide) ?_
      refine g_aload_n (pc := 74) o 0 dX3_now_74 rfl rfl ?_
      refine g_getI (pc := 75) o flRX3_81 (by first | assumption | rfl) (by first | assumption | omega) dX3_now_75 ?_
      exact g_iret (pc := 78) o f dX3_now_78 rfl (by rw [hp]; rw [tbv_in (by decide) (by decide)]; rfl) rfl

set_option maxHeartbeats 2000000 in
set_option maxRecDepth 20000 in
theorem cX3count {t b : Nat} {T S : Nat → Nat} (xb : XB M Rf n t T S b) {cn tl : Nat} (hcn : M 0 12 = nI cn) (htl : M 1 1 = nI tl) {v : Int32} : Ret Λ (d) mX3_count [.ref 0, .int v] (n, M, Rf, Lg) (some (.int (tbv v 6 (fCnt T cn tl) (-1)))) (n, M, Rf, Lg) 0 0 := by
  refine Ret.of rfl rfl rfl (fun κ o f hin => ?_)
  obtain ⟨hx, hc, hn, ht, hm, hr, hs, os, hb9⟩ := id xb
  have rc := hx.city hc
  obtain ⟨x0, x1, x3, x4, x5, x8, x9, x10, x11, x13, x14, x15, xN, xC4, xC16, xP, xI, xT, xL, xNm⟩ := id hx
  obtain ⟨r3, r4, r6, r7, r8, r9, r11, r12, r13, r14, r15⟩ := id rc
  obtain ⟨z0, z1, z2, z3, z4, z5, z6, z7, z8, z9, z10, z11⟩ := city_shp hc
  obtain ⟨⟨t0, t0b⟩, t1, t2, t3, tD, tC, tN⟩ := id ht
  obtain ⟨m0, m1, m5, m10, mb, mj, mc, mn, ml⟩ := id hm
  have ra := xN 28 in28
  have rt := xN 32 in32
  obtain ⟨u3, u4, u5⟩ := id ra
  obtain ⟨v3, v4, v5⟩ := id rt
  obtain ⟨s0, s1, s2, sc⟩ := id hs
  obtain ⟨os0, os1, os2, osc⟩ := id os
  refine g_iload_n (pc := 0) o 1 dX3_count_0 rfl rfl ?_
  rcases sw_cases v 6 (by decide) with hsw | ⟨kk, hkk, rfl⟩
  · refine g_tabO (pc := 1) o 85 dX3_count_1 (by first | exact hsw | omega) (by decide) ?_
    refine g_iconst (pc := 85) (v := -1) o dX3_count_85 (by decide) ?_
    exact g_iret (pc := 86) o f dX3_count_86 rfl (by rw [tbv_out (inn_neg hsw)]) rfl
  · match kk, hkk with
    | 0, _ =>
      refine g_tabI (pc := 1) o 40 dX3_count_1 (by decide) (by decide) rfl (by decide) ?_
      refine g_aload_n (pc := 40) o 0 dX3_count_40 rfl rfl ?_
      refine g_getR (pc := 41) o flRX3_19 (by first | assumption | rfl) (by first | assumption | omega) (by assumption) dX3_count_41 ?_
      refine g_getI (pc := 44) o flRX3_149 (by first | assumption | rfl) (by first | assumption | omega) dX3_count_44 ?_
      exact g_iret (pc := 47) o f dX3_count_47 rfl (by rw [m0]; rw [tbv_in (by decide) (by decide)]; rfl) rfl
    | 1, _ =>
      refine g_tabI (pc := 1) o 48 dX3_count_1 (by decide) (by decide) rfl (by decide) ?_
      refine g_aload_n (pc := 48) o 0 dX3_count_48 rfl rfl ?_
      refine g_getR (pc := 49) o flRX3_19 (by first | assumption | rfl) (by first | assumption | omega) (by assumption) dX3_count_49 ?_
      refine g_getI (pc := 52) o flRX3_185 (by first | assumption | rfl) (by first | assumption | omega) dX3_count_52 ?_
      exact g_iret (pc := 55) o f dX3_count_55 rfl (by rw [m1]; rw [tbv_in (by decide) (by decide)]; rfl) rfl
    | 2, _ =>
      refine g_tabI (pc := 1) o 56 dX3_count_1 (by decide) (by decide) rfl (by decide) ?_
      refine g_aload_n (pc := 56) o 0 dX3_count_56 rfl rfl ?_
      refine g_getR (pc := 57) o flRX3_19 (by first | assumption | rfl) (by first | assumption | omega) (by assumption) dX3_count_57 ?_
      refine g_getI (pc := 60) o flRX3_146 (by first | assumption | rfl) (by first | assumption | omega) dX3_count_60 ?_
      exact g_iret (pc := 63) o f dX3_count_63 rfl (by rw [m5]; rw [tbv_in (by decide) (by decide)]; rfl) rfl
    | 3, _ =>
      refine g_tabI (pc := 1) o 64 dX3_count_1 (by decide) (by decide) rfl (by decide) ?_
      refine g_aload_n (pc := 64) o 0 dX3_count_64 rfl rfl ?_
      refine g_getR (pc := 65) o flRX3_19 (by first | assumption | rfl) (by first | assumption | omega) (by assumption) dX3_count_65 ?_
      refine g_getI (pc := 68) o flRX3_118 (by first | assumption | rfl) (by first | assumption | omega) dX3_count_68 ?_
      exact g_iret (pc := 71) o f dX3_count_71 rfl (by rw [m10]; rw [tbv_in (by decide) (by decide)]; rfl) rfl
    | 4, _ =>
      refine g_tabI (pc := 1) o 72 dX3_count_1 (by decide) (by decide) rfl (by decide) ?_
      refine g_aload_n (pc := 72) o 0 dX3_count_72 rfl rfl ?_
      refine g_getI (pc := 73) o flRX3_84 (by first | assumption | rfl) (by first | assumption | omega) dX3_count_73 ?_
      exact g_iret (pc := 76) o f dX3_count_76 rfl (by rw [hcn]; rw [tbv_in (by decide) (by decide)]; rfl) rfl
    | 5, _ =>
      refine g_tabI (pc := 1) o 77 dX3_count_1 (by decide) (by decide) rfl (by decide) ?_
      refine g_aload_n (pc := 77) o 0 dX3_count_77 rfl rfl ?_
      refine g_getR (pc := 78) o flRX3_12 (by first | assumption | rfl) (by first | assumption | omega) (by assumption) dX3_count_78 ?_
      refine g_getI (pc := 81) o flRX3_73 (by first | assumption | rfl) (by first | assumption | omega) dX3_count_81 ?_
      exact g_iret (pc := 84) o f dX3_count_84 rfl (by rw [htl]; rw [tbv_in (by decide) (by decide)]; rfl) rfl

def aType (tl : Nat) (v : Int32) : Int32 := if inn v 256 then (if tl < 200 then nI (tl + 1) else -3) else -1
def mType (M : HM) (tl : Nat) (v : Int32) : HM := if inn v 256 ∧ tl < 200 then st2 (st2 M 2 tl v) 1 1 (nI (tl + 1)) else M
theorem i2c_N {j : Nat} (h : j < 256) : ((nI j).toUInt32 % 65536).toInt32 = nI j := by
  rw [pk_char, pk_tn (by omega), Nat.mod_eq_of_lt (by omega)]
set_option maxHeartbeats 2000000 in
set_option maxRecDepth 20000 in
theorem cX3type  (hn : 96 ≤ n) (x0 : Rf 0 0 = some 1) (xL : Rf 1 0 = some 2) {tl : Nat} (htl : M 1 1 = nI tl) (hl : tl ≤ 200) {v : Int32} : Ret Λ (d) mX3_type [.ref 0, .int v] (n, M, Rf, Lg) (some (.int (aType tl v))) (n, mType M tl v, Rf, Lg) 0 0 := by
  refine Ret.of rfl rfl rfl (fun κ o f hin => ?_)
  refine g_iload_n (pc := 0) o 1 dX3_type_0 rfl rfl ?_
  refine g_if_lt (pc := 1) o 11 dX3_type_1 (by decide) (fun q1 => ?_) (fun q1 => ?_)
  · refine g_iconst (pc := 11) (v := -1) o dX3_type_11 (by decide) ?_
    exact g_iret (pc := 12) o f dX3_type_12 rfl (by unfold aType; first | rw [if_neg hv] | rw [if_neg (inn_lt0 q1)]) (hp_M (by unfold mType; first | rw [if_neg (fun q => hv q.1)] | rw [if_neg (fun q => inn_lt0 q1 q.1)]))
  · refine g_iload_n (pc := 4) o 1 dX3_type_4 rfl rfl ?_
    refine g_sipush (pc := 5) (v := 255) o dX3_type_5 (by decide) ?_
    refine g_icmp_le (pc := 8) o 13 dX3_type_8 (by decide) (fun q8 => ?_) (fun q8 => ?_)
    · have hv := inn_le (N := 255) (by decide) rfl q1 q8
      obtain ⟨j, hj, rfl⟩ := inn_of hv (by decide)
      refine g_aload_n (pc := 13) o 0 dX3_type_13 rfl rfl ?_
      refine g_getR (pc := 14) o flRX3_12 (by first | assumption | rfl) (by first | assumption | omega) (by assumption) dX3_type_14 ?_
      refine g_getI (pc := 17) o flRX3_73 (by first | assumption | rfl) (by first | assumption | omega) dX3_type_17 ?_
      refine g_sipush (pc := 20) (v := 200) o dX3_type_20 (by decide) ?_
      refine g_icmp_lt (pc := 23) o 29 dX3_type_23 (by decide) (fun q23 => ?_) (fun q23 => ?_)
      · have hl2 : tl < 200 := (lt_N (b := 200) (by omega) (by decide) htl rfl).mp q23
        refine g_aload_n (pc := 29) o 0 dX3_type_29 rfl rfl ?_
        refine g_getR (pc := 30) o flRX3_12 (by first | assumption | rfl) (by first | assumption | omega) (by assumption) dX3_type_30 ?_
        refine g_getR (pc := 33) o flRX3_77 (by first | assumption | rfl) (by first | assumption | omega) (by assumption) dX3_type_33 ?_
        refine g_aload_n (pc := 36) o 0 dX3_type_36 rfl rfl ?_
        refine g_getR (pc := 37) o flRX3_12 (by first | assumption | rfl) (by first | assumption | omega) (by assumption) dX3_type_37 ?_
        refine g_getI (pc := 40) o flRX3_73 (by first | assumption | rfl) (by first | assumption | omega) dX3_type_40 ?_
        refine g_iload_n (pc := 43) o 1 dX3_type_43 rfl rfl ?_
        refine g_i2c (pc := 44) o dX3_type_44 ?_
        rw [i2c_N hj]
        refine g_cast (pc := 45) o (tl) (by first | assumption | rfl) (by first | assumption | omega) htl (by omega) (pk_charN (by omega)).1 dX3_type_45 ?_
        refine g_aload_n (pc := 46) o 0 dX3_type_46 rfl rfl ?_
        refine g_getR (pc := 47) o flRX3_12 (by first | assumption | rfl) (by first | assumption | omega) (by assumption) dX3_type_47 ?_
        refine g_dup (pc := 50) o dX3_type_50 rfl ?_
        refine g_getI (pc := 51) o flRX3_73 (by first | assumption | rfl) (by first | assumption | omega) dX3_type_51 ?_
        refine g_iconst (pc := 54) (v := 1) o dX3_type_54 (by decide) ?_
        refine g_iadd (pc := 55) o dX3_type_55 ?_
        refine g_putI (pc := 56) o flRX3_73 rfl (by first | assumption | rfl) (by first | assumption | omega) rfl rfl dX3_type_56 ?_
        refine g_aload_n (pc := 59) o 0 dX3_type_59 rfl rfl ?_
        refine g_getR (pc := 60) o flRX3_12 (by first | assumption | rfl) (by first | assumption | omega) (by assumption) dX3_type_60 ?_
        refine g_getI (pc := 63) o flRX3_73 (by first | assumption | rfl) (by first | assumption | omega) dX3_type_63 ?_
        exact g_iret (pc := 66) o f dX3_type_66 rfl (by unfold aType; rw [if_pos hv, if_pos hl2]; simp only [st2]; simp; rw [htl]; exact nI_1 _) (hp_M (by unfold mType; rw [if_pos ⟨hv, hl2⟩]; simp only [st2]; simp; rw [htl, nI_1]))
      · have hl2 : ¬ tl < 200 := mt (lt_N (b := 200) (by omega) (by decide) htl rfl).mpr q23
        refine g_bipush (pc := 26) (v := -3) o dX3_type_26 (by decide) ?_
        exact g_iret (pc := 28) o f dX3_type_28 rfl (by unfold aType; rw [if_pos hv, if_neg hl2]) (hp_M (by unfold mType; rw [if_neg (fun q => hl2 q.2)]))
    · have hv := inn_gt (v := v) (N := 255) (by decide) rfl (Int32.not_le.mp q8)
      refine g_iconst (pc := 11) (v := -1) o dX3_type_11 (by decide) ?_
      exact g_iret (pc := 12) o f dX3_type_12 rfl (by unfold aType; first | rw [if_neg hv] | rw [if_neg (inn_lt0 q1)]) (hp_M (by unfold mType; first | rw [if_neg (fun q => hv q.1)] | rw [if_neg (fun q => inn_lt0 q1 q.1)]))

set_option maxHeartbeats 2000000 in
set_option maxRecDepth 20000 in
theorem cX3clear  (hn : 96 ≤ n) (x0 : Rf 0 0 = some 1) {tl : Nat} (htl : M 1 1 = nI tl) : Ret Λ (d) mX3_clear [.ref 0] (n, M, Rf, Lg) (some (.int (nI tl))) (n, st2 M 1 1 0, Rf, Lg) 0 0 := by
  refine Ret.of rfl rfl rfl (fun κ o f hin => ?_)
  refine g_aload_n (pc := 0) o 0 dX3_clear_0 rfl rfl ?_
  refine g_getR (pc := 1) o flRX3_12 (by first | assumption | rfl) (by first | assumption | omega) (by assumption) dX3_clear_1 ?_
  refine g_getI (pc := 4) o flRX3_73 (by first | assumption | rfl) (by first | assumption | omega) dX3_clear_4 ?_
  refine g_istore_n (pc := 7) o 1 dX3_clear_7 rfl rfl ?_
  refine g_aload_n (pc := 8) o 0 dX3_clear_8 rfl rfl ?_
  refine g_getR (pc := 9) o flRX3_12 (by first | assumption | rfl) (by first | assumption | omega) (by assumption) dX3_clear_9 ?_
  refine g_iconst (pc := 12) (v := 0) o dX3_clear_12 (by decide) ?_
  refine g_putI (pc := 13) o flRX3_73 rfl (by first | assumption | rfl) (by first | assumption | omega) rfl rfl dX3_clear_13 ?_
  refine g_iload_n (pc := 16) o 1 dX3_clear_16 rfl rfl ?_
  exact g_iret (pc := 17) o f dX3_clear_17 rfl htl rfl

def aCounted (cn : Nat) (v w : Int32) : Int32 := if inn v 21 ∧ inn w 7 then (if cn < 6 then nI (cn + 1) else -3) else -1
def mCounted (M : HM) (cn : Nat) (v w : Int32) : HM := if (inn v 21 ∧ inn w 7) ∧ cn < 6 then st2 (st2 (st2 M 39 cn v) 40 cn w) 0 12 (nI (cn + 1)) else M
set_option maxHeartbeats 2000000 in
set_option maxRecDepth 20000 in
theorem cX3counted  (hn : 96 ≤ n) (x10 : Rf 0 10 = some 39) (x11 : Rf 0 11 = some 40) {cn : Nat} (hcn : M 0 12 = nI cn) (hl : cn ≤ 6) {v w : Int32} : Ret Λ (d) mX3_counted [.ref 0, .int v, .int w] (n, M, Rf, Lg) (some (.int (aCounted cn v w))) (n, mCounted M cn v w, Rf, Lg) 0 0 := by
  refine Ret.of rfl rfl rfl (fun κ o f hin => ?_)
  refine g_iload_n (pc := 0) o 1 dX3_counted_0 rfl rfl ?_
  refine g_if_lt (pc := 1) o 20 dX3_counted_1 (by decide) (fun q1 => ?_) (fun q1 => ?_)
  · have hv : ¬ (inn v 21 ∧ inn w 7) := fun q => inn_lt0 q1 q.1
    refine g_iconst (pc := 20) (v := -1) o dX3_counted_20 (by decide) ?_
    exact g_iret (pc := 21) o f dX3_counted_21 rfl (by unfold aCounted; rw [if_neg hv]) (hp_M (by unfold mCounted; rw [if_neg (fun q => hv q.1)]))
  · refine g_iload_n (pc := 4) o 1 dX3_counted_4 rfl rfl ?_
    refine g_bipush (pc := 5) (v := 20) o dX3_counted_5 (by decide) ?_
    refine g_icmp_gt (pc := 7) o 20 dX3_counted_7 (by decide) (fun q7 => ?_) (fun q7 => ?_)
    · have hv : ¬ (inn v 21 ∧ inn w 7) := fun q => inn_gt (N := 20) (by decide) rfl q7 q.1
      refine g_iconst (pc := 20) (v := -1) o dX3_counted_20 (by decide) ?_
      exact g_iret (pc := 21) o f dX3_counted_21 rfl (by unfold aCounted; rw [if_neg hv]) (hp_M (by unfold mCounted; rw [if_neg (fun q => hv q.1)]))
    · have hv1 := inn_le (N := 20) (by decide) rfl q1 (Int32.not_lt.mp q7)
      refine g_iload_n (pc := 10) o 2 dX3_counted_10 rfl rfl ?_
      refine g_if_lt (pc := 11) o 20 dX3_counted_11 (by decide) (fun q11 => ?_) (fun q11 => ?_)
      · have hv : ¬ (inn v 21 ∧ inn w 7) := fun q => inn_lt0 q11 q.2
        refine g_iconst (pc := 20) (v := -1) o dX3_counted_20 (by decide) ?_
        exact g_iret (pc := 21) o f dX3_counted_21 rfl (by unfold aCounted; rw [if_neg hv]) (hp_M (by unfold mCounted; rw [if_neg (fun q => hv q.1)]))
      · refine g_iload_n (pc := 14) o 2 dX3_counted_14 rfl rfl ?_
        refine g_bipush (pc := 15) (v := 6) o dX3_counted_15 (by decide) ?_
        refine g_icmp_le (pc := 17) o 22 dX3_counted_17 (by decide) (fun q17 => ?_) (fun q17 => ?_)
        · have hv : inn v 21 ∧ inn w 7 := ⟨hv1, inn_le (N := 6) (by decide) rfl q11 q17⟩
          refine g_aload_n (pc := 22) o 0 dX3_counted_22 rfl rfl ?_
          refine g_getI (pc := 23) o flRX3_84 (by first | assumption | rfl) (by first | assumption | omega) dX3_counted_23 ?_
          refine g_bipush (pc := 26) (v := 6) o dX3_counted_26 (by decide) ?_
          refine g_icmp_lt (pc := 28) o 34 dX3_counted_28 (by decide) (fun q28 => ?_) (fun q28 => ?_)
          · have hl2 : cn < 6 := (lt_N (b := 6) (by omega) (by decide) hcn rfl).mp q28
            refine g_aload_n (pc := 34) o 0 dX3_counted_34 rfl rfl ?_
            refine g_getR (pc := 35) o flRX3_47 (by first | assumption | rfl) (by first | assumption | omega) (by assumption) dX3_counted_35 ?_
            refine g_aload_n (pc := 38) o 0 dX3_counted_38 rfl rfl ?_
            refine g_getI (pc := 39) o flRX3_84 (by first | assumption | rfl) (by first | assumption | omega) dX3_counted_39 ?_
            refine g_iload_n (pc := 42) o 1 dX3_counted_42 rfl rfl ?_
            refine g_iast (pc := 43) o (cn) (by first | assumption | rfl) (by first | assumption | omega) hcn (by omega) dX3_counted_43 ?_
            refine g_aload_n (pc := 44) o 0 dX3_counted_44 rfl rfl ?_
            refine g_getR (pc := 45) o flRX3_51 (by first | assumption | rfl) (by first | assumption | omega) (by assumption) dX3_counted_45 ?_
            refine g_aload_n (pc := 48) o 0 dX3_counted_48 rfl rfl ?_
            refine g_getI (pc := 49) o flRX3_84 (by first | assumption | rfl) (by first | assumption | omega) dX3_counted_49 ?_
            refine g_iload_n (pc := 52) o 2 dX3_counted_52 rfl rfl ?_
            refine g_iast (pc := 53) o (cn) (by first | assumption | rfl) (by first | assumption | omega) (by simp only [st2]; simp; exact hcn) (by omega) dX3_counted_53 ?_
            refine g_aload_n (pc := 54) o 0 dX3_counted_54 rfl rfl ?_
            refine g_dup (pc := 55) o dX3_counted_55 rfl ?_
            refine g_getI (pc := 56) o flRX3_84 (by first | assumption | rfl) (by first | assumption | omega) dX3_counted_56 ?_
            refine g_iconst (pc := 59) (v := 1) o dX3_counted_59 (by decide) ?_
            refine g_iadd (pc := 60) o dX3_counted_60 ?_
            refine g_putI (pc := 61) o flRX3_84 rfl (by first | assumption | rfl) (by first | assumption | omega) rfl rfl dX3_counted_61 ?_
            refine g_aload_n (pc := 64) o 0 dX3_counted_64 rfl rfl ?_
            refine g_getI (pc := 65) o flRX3_84 (by first | assumption | rfl) (by first | assumption | omega) dX3_counted_65 ?_
            exact g_iret (pc := 68) o f dX3_counted_68 rfl (by unfold aCounted; rw [if_pos hv, if_pos hl2]; simp only [st2]; simp; rw [hcn]; exact nI_1 _) (hp_M (by unfold mCounted; rw [if_pos ⟨hv, hl2⟩]; simp only [st2]; simp; rw [hcn, nI_1]))
          · have hl2 : ¬ cn < 6 := mt (lt_N (b := 6) (by omega) (by decide) hcn rfl).mpr q28
            refine g_bipush (pc := 31) (v := -3) o dX3_counted_31 (by decide) ?_
            exact g_iret (pc := 33) o f dX3_counted_33 rfl (by unfold aCounted; rw [if_pos hv, if_neg hl2]) (hp_M (by unfold mCounted; rw [if_neg (fun q => hl2 q.2)]))
        · have hv : ¬ (inn v 21 ∧ inn w 7) := fun q => inn_gt (N := 6) (by decide) rfl (Int32.not_le.mp q17) q.2
          refine g_iconst (pc := 20) (v := -1) o dX3_counted_20 (by decide) ?_
          exact g_iret (pc := 21) o f dX3_counted_21 rfl (by unfold aCounted; rw [if_neg hv]) (hp_M (by unfold mCounted; rw [if_neg (fun q => hv q.1)]))

set_option maxHeartbeats 2000000 in
set_option maxRecDepth 20000 in
theorem cX3forget  (hn : 96 ≤ n) {cn : Nat} (hcn : M 0 12 = nI cn) : Ret Λ (d) mX3_forget [.ref 0] (n, M, Rf, Lg) (some (.int (nI cn))) (n, st2 M 0 12 0, Rf, Lg) 0 0 := by
  refine Ret.of rfl rfl rfl (fun κ o f hin => ?_)
  refine g_aload_n (pc := 0) o 0 dX3_forget_0 rfl rfl ?_
  refine g_getI (pc := 1) o flRX3_84 (by first | assumption | rfl) (by first | assumption | omega) dX3_forget_1 ?_
  refine g_istore_n (pc := 4) o 1 dX3_forget_4 rfl rfl ?_
  refine g_aload_n (pc := 5) o 0 dX3_forget_5 rfl rfl ?_
  refine g_iconst (pc := 6) (v := 0) o dX3_forget_6 (by decide) ?_
  refine g_putI (pc := 7) o flRX3_84 rfl (by first | assumption | rfl) (by first | assumption | omega) rfl rfl dX3_forget_7 ?_
  refine g_iload_n (pc := 10) o 1 dX3_forget_10 rfl rfl ?_
  exact g_iret (pc := 11) o f dX3_forget_11 rfl hcn rfl

set_option maxHeartbeats 2000000 in
set_option maxRecDepth 20000 in
theorem cX3trace  (hn : 96 ≤ n) : Ret Λ (d) mX3_trace [.ref 0] (n, M, Rf, Lg) (some (.long (Lg 0 16))) (n, M, Rf, Lg) 0 0 := by
  refine Ret.of rfl rfl rfl (fun κ o f hin => ?_)
  refine g_aload_n (pc := 0) o 0 dX3_trace_0 rfl rfl ?_
  refine g_getJ (pc := 1) o flRX3_290 (by first | assumption | rfl) (by first | assumption | omega) dX3_trace_1 ?_
  exact g_lret (pc := 4) o f dX3_trace_4 rfl rfl

def trc (Lg : HL) (k : Int64) : HL := st2 Lg 0 16 (Lg 0 16 + k)
theorem trc_trc (Lg : HL) (a b : Int64) : trc (trc Lg a) b = trc Lg (a + b) := by
  funext z j
  simp only [trc, st2]
  by_cases h : z = 0 ∧ j = 16
  · simp [h, Int64.add_assoc]
  · simp [h]
theorem hp_L {n : Nat} {M : HM} {Rf : HR} {Lg Lg' : HL} (h : Lg = Lg') : ((n, M, Rf, Lg) : HP) = (n, M, Rf, Lg') := by rw [h]
set_option maxHeartbeats 2000000 in
set_option maxRecDepth 20000 in
theorem cX3asCitizen {t b : Nat} {T S : Nat → Nat} (xb : XB M Rf n t T S b) {j : Nat} (hj : j < T 2) : Ret Λ (d) mX3_asCitizen [.ref 0, .int (nI j)] (n, M, Rf, Lg) (some (.int (nI (S (3 + j))))) (n, M, Rf, trc Lg 1) 0 0 := by
  refine Ret.of rfl rfl rfl (fun κ o f hin => ?_)
  obtain ⟨hx, hc, hn, ht, hm, hr, hs, os, hb9⟩ := id xb
  have rc := hx.city hc
  obtain ⟨x0, x1, x3, x4, x5, x8, x9, x10, x11, x13, x14, x15, xN, xC4, xC16, xP, xI, xT, xL, xNm⟩ := id hx
  obtain ⟨r3, r4, r6, r7, r8, r9, r11, r12, r13, r14, r15⟩ := id rc
  obtain ⟨z0, z1, z2, z3, z4, z5, z6, z7, z8, z9, z10, z11⟩ := city_shp hc
  obtain ⟨⟨t0, t0b⟩, t1, t2, t3, tD, tC, tN⟩ := id ht
  obtain ⟨m0, m1, m5, m10, mb, mj, mc, mn, ml⟩ := id hm
  have ra := xN 28 in28
  have rt := xN 32 in32
  obtain ⟨u3, u4, u5⟩ := id ra
  obtain ⟨v3, v4, v5⟩ := id rt
  obtain ⟨s0, s1, s2, sc⟩ := id hs
  obtain ⟨os0, os1, os2, osc⟩ := id os
  refine g_aload_n (pc := 0) o 0 dX3_asCitizen_0 rfl rfl ?_
  refine g_dup (pc := 1) o dX3_asCitizen_1 rfl ?_
  refine g_getJ (pc := 2) o flRX3_290 (by first | assumption | rfl) (by first | assumption | omega) dX3_asCitizen_2 ?_
  refine g_lconst (pc := 5) (v := 1) o dX3_asCitizen_5 (by decide) ?_
  refine g_ladd (pc := 6) o dX3_asCitizen_6 ?_
  refine g_putJ (pc := 7) o flRX3_290 rfl (by first | assumption | rfl) (by first | assumption | omega) dX3_asCitizen_7 ?_
  refine g_aload_n (pc := 10) o 0 dX3_asCitizen_10 rfl rfl ?_
  refine g_getR (pc := 11) o flRX3_29 (by first | assumption | rfl) (by first | assumption | omega) (by assumption) dX3_asCitizen_11 ?_
  refine g_getR (pc := 14) o flRX3_103 (by first | assumption | rfl) (by first | assumption | omega) (by assumption) dX3_asCitizen_14 ?_
  refine g_iload_n (pc := 17) o 1 dX3_asCitizen_17 rfl rfl ?_
  refine g_iald (pc := 18) o (j) (by first | assumption | rfl) (by first | assumption | omega) rfl (by omega) dX3_asCitizen_18 ?_
  exact g_iret (pc := 19) o f dX3_asCitizen_19 rfl (by rw [(sc j hj).1]) rfl

set_option maxHeartbeats 2000000 in
set_option maxRecDepth 20000 in
theorem cX3asBaker {t b : Nat} {T S : Nat → Nat} (xb : XB M Rf n t T S b) {j : Nat} (hj : j < T 2) : Ret Λ (d + 1) mX3_asBaker [.ref 0, .int (nI j)] (n, M, Rf, Lg) (some (.int (nI (S (3 + j) + pop (T (26 + j)))))) (n, M, Rf, trc Lg 11) 0 0 := by
  refine Ret.of rfl rfl rfl (fun κ o f hin => ?_)
  obtain ⟨hx, hc, hn, ht, hm, hr, hs, os, hb9⟩ := id xb
  have rc := hx.city hc
  obtain ⟨x0, x1, x3, x4, x5, x8, x9, x10, x11, x13, x14, x15, xN, xC4, xC16, xP, xI, xT, xL, xNm⟩ := id hx
  obtain ⟨r3, r4, r6, r7, r8, r9, r11, r12, r13, r14, r15⟩ := id rc
  obtain ⟨z0, z1, z2, z3, z4, z5, z6, z7, z8, z9, z10, z11⟩ := city_shp hc
  obtain ⟨⟨t0, t0b⟩, t1, t2, t3, tD, tC, tN⟩ := id ht
  obtain ⟨m0, m1, m5, m10, mb, mj, mc, mn, ml⟩ := id hm
  have ra := xN 28 in28
  have rt := xN 32 in32
  obtain ⟨u3, u4, u5⟩ := id ra
  obtain ⟨v3, v4, v5⟩ := id rt
  obtain ⟨s0, s1, s2, sc⟩ := id hs
  obtain ⟨os0, os1, os2, osc⟩ := id os
  refine g_aload_n (pc := 0) o 0 dX3_asBaker_0 rfl rfl ?_
  refine g_dup (pc := 1) o dX3_asBaker_1 rfl ?_
  refine g_getJ (pc := 2) o flRX3_290 (by first | assumption | rfl) (by first | assumption | omega) dX3_asBaker_2 ?_
  refine g_ldc2 (pc := 5) o ctRX3_294 dX3_asBaker_5 ?_
  refine g_ladd (pc := 8) o dX3_asBaker_8 ?_
  refine g_putJ (pc := 9) o flRX3_290 rfl (by first | assumption | rfl) (by first | assumption | omega) dX3_asBaker_9 ?_
  refine g_aload_n (pc := 12) o 0 dX3_asBaker_12 rfl rfl ?_
  refine g_iload_n (pc := 13) o 1 dX3_asBaker_13 rfl rfl ?_
  refine g_V1i (pc := 14) o lkRX3_272 cmX3_asCitizen (cX3asCitizen (Lg := trc Lg 10) xb hj) (by first | assumption | rfl) (by first | assumption | omega) rfl rfl ⟨Nat.le_refl _, Nat.le_refl _⟩ dX3_asBaker_14 ?_
  refine g_aload_n (pc := 17) o 0 dX3_asBaker_17 rfl rfl ?_
  refine g_getR (pc := 18) o flRX3_19 (by first | assumption | rfl) (by first | assumption | omega) (by assumption) dX3_asBaker_18 ?_
  refine g_getR (pc := 21) o flRX3_106 (by first | assumption | rfl) (by first | assumption | omega) (by assumption) dX3_asBaker_21 ?_
  refine g_iload_n (pc := 24) o 1 dX3_asBaker_24 rfl rfl ?_
  refine g_iald (pc := 25) o (j) (by first | assumption | rfl) (by first | assumption | omega) rfl (by omega) dX3_asBaker_25 ?_
  rw [(mc j hj).2.2.1]
  refine g_S1i (pc := 26) o lkRX3_179 cmJ6_bitCount_0f7a4 (cbc (by have := tC j hj; omega)) rfl rfl ⟨Nat.le_refl _, Nat.le_refl _⟩ dX3_asBaker_26 ?_
  refine g_iadd (pc := 29) o dX3_asBaker_29 ?_
  exact g_iret (pc := 30) o f dX3_asBaker_30 rfl (nI_add _ _) (hp_L (trc_trc Lg 10 1))

set_option maxHeartbeats 2000000 in
set_option maxRecDepth 20000 in
theorem cX3asDeputy {t b : Nat} {T S : Nat → Nat} (xb : XB M Rf n t T S b) {j : Nat} (hj : j < T 2) : Ret Λ (d + 1) mX3_asDeputy [.ref 0, .int (nI j)] (n, M, Rf, Lg) (some (.int (nI (S (3 + j)) - nI (T (32 + j))))) (n, M, Rf, trc Lg 101) 0 0 := by
  refine Ret.of rfl rfl rfl (fun κ o f hin => ?_)
  obtain ⟨hx, hc, hn, ht, hm, hr, hs, os, hb9⟩ := id xb
  have rc := hx.city hc
  obtain ⟨x0, x1, x3, x4, x5, x8, x9, x10, x11, x13, x14, x15, xN, xC4, xC16, xP, xI, xT, xL, xNm⟩ := id hx
  obtain ⟨r3, r4, r6, r7, r8, r9, r11, r12, r13, r14, r15⟩ := id rc
  obtain ⟨z0, z1, z2, z3, z4, z5, z6, z7, z8, z9, z10, z11⟩ := city_shp hc
  obtain ⟨⟨t0, t0b⟩, t1, t2, t3, tD, tC, tN⟩ := id ht
  obtain ⟨m0, m1, m5, m10, mb, mj, mc, mn, ml⟩ := id hm
  have ra := xN 28 in28
  have rt := xN 32 in32
  obtain ⟨u3, u4, u5⟩ := id ra
  obtain ⟨v3, v4, v5⟩ := id rt
  obtain ⟨s0, s1, s2, sc⟩ := id hs
  obtain ⟨os0, os1, os2, osc⟩ := id os
  refine g_aload_n (pc := 0) o 0 dX3_asDeputy_0 rfl rfl ?_
  refine g_dup (pc := 1) o dX3_asDeputy_1 rfl ?_
  refine g_getJ (pc := 2) o flRX3_290 (by first | assumption | rfl) (by first | assumption | omega) dX3_asDeputy_2 ?_
  refine g_ldc2 (pc := 5) o ctRX3_296 dX3_asDeputy_5 ?_
  refine g_ladd (pc := 8) o dX3_asDeputy_8 ?_
  refine g_putJ (pc := 9) o flRX3_290 rfl (by first | assumption | rfl) (by first | assumption | omega) dX3_asDeputy_9 ?_
  refine g_aload_n (pc := 12) o 0 dX3_asDeputy_12 rfl rfl ?_
  refine g_iload_n (pc := 13) o 1 dX3_asDeputy_13 rfl rfl ?_
  refine g_V1i (pc := 14) o lkRX3_272 cmX3_asCitizen (cX3asCitizen (Lg := trc Lg 100) xb hj) (by first | assumption | rfl) (by first | assumption | omega) rfl rfl ⟨Nat.le_refl _, Nat.le_refl _⟩ dX3_asDeputy_14 ?_
  refine g_aload_n (pc := 17) o 0 dX3_asDeputy_17 rfl rfl ?_
  refine g_getR (pc := 18) o flRX3_19 (by first | assumption | rfl) (by first | assumption | omega) (by assumption) dX3_asDeputy_18 ?_
  refine g_getR (pc := 21) o flRX3_109 (by first | assumption | rfl) (by first | assumption | omega) (by assumption) dX3_asDeputy_21 ?_
  refine g_iload_n (pc := 24) o 1 dX3_asDeputy_24 rfl rfl ?_
  refine g_iald (pc := 25) o (j) (by first | assumption | rfl) (by first | assumption | omega) rfl (by omega) dX3_asDeputy_25 ?_
  rw [(mc j hj).2.2.2]
  refine g_isub (pc := 26) o dX3_asDeputy_26 ?_
  exact g_iret (pc := 27) o f dX3_asDeputy_27 rfl rfl (hp_L (trc_trc Lg 100 1))

set_option maxHeartbeats 2000000 in
set_option maxRecDepth 20000 in
theorem cX3asGuard {t b : Nat} {T S : Nat → Nat} (xb : XB M Rf n t T S b) {j : Nat} (hj : j < T 2) : Ret Λ (d + 2) mX3_asGuard [.ref 0, .int (nI j)] (n, M, Rf, Lg) (some (.int (2 * nI (S (3 + j) + pop (T (26 + j)))))) (n, M, Rf, trc Lg 1011) 0 0 := by
  refine Ret.of rfl rfl rfl (fun κ o f hin => ?_)
  obtain ⟨hx, hc, hn, ht, hm, hr, hs, os, hb9⟩ := id xb
  have rc := hx.city hc
  obtain ⟨x0, x1, x3, x4, x5, x8, x9, x10, x11, x13, x14, x15, xN, xC4, xC16, xP, xI, xT, xL, xNm⟩ := id hx
  obtain ⟨r3, r4, r6, r7, r8, r9, r11, r12, r13, r14, r15⟩ := id rc
  obtain ⟨z0, z1, z2, z3, z4, z5, z6, z7, z8, z9, z10, z11⟩ := city_shp hc
  obtain ⟨⟨t0, t0b⟩, t1, t2, t3, tD, tC, tN⟩ := id ht
  obtain ⟨m0, m1, m5, m10, mb, mj, mc, mn, ml⟩ := id hm
  have ra := xN 28 in28
  have rt := xN 32 in32
  obtain ⟨u3, u4, u5⟩ := id ra
  obtain ⟨v3, v4, v5⟩ := id rt
  obtain ⟨s0, s1, s2, sc⟩ := id hs
  obtain ⟨os0, os1, os2, osc⟩ := id os
  refine g_aload_n (pc := 0) o 0 dX3_asGuard_0 rfl rfl ?_
  refine g_dup (pc := 1) o dX3_asGuard_1 rfl ?_
  refine g_getJ (pc := 2) o flRX3_290 (by first | assumption | rfl) (by first | assumption | omega) dX3_asGuard_2 ?_
  refine g_ldc2 (pc := 5) o ctRX3_298 dX3_asGuard_5 ?_
  refine g_ladd (pc := 8) o dX3_asGuard_8 ?_
  refine g_putJ (pc := 9) o flRX3_290 rfl (by first | assumption | rfl) (by first | assumption | omega) dX3_asGuard_9 ?_
  refine g_iconst (pc := 12) (v := 2) o dX3_asGuard_12 (by decide) ?_
  refine g_aload_n (pc := 13) o 0 dX3_asGuard_13 rfl rfl ?_
  refine g_iload_n (pc := 14) o 1 dX3_asGuard_14 rfl rfl ?_
  refine g_V1i (pc := 15) o lkRX3_275 cmX3_asBaker (cX3asBaker (Lg := trc Lg 1000) xb hj) (by first | assumption | rfl) (by first | assumption | omega) rfl rfl ⟨Nat.le_refl _, Nat.le_refl _⟩ dX3_asGuard_15 ?_
  refine g_imul (pc := 18) o dX3_asGuard_18 ?_
  exact g_iret (pc := 19) o f dX3_asGuard_19 rfl rfl (hp_L (trc_trc Lg 1000 11))

set_option maxHeartbeats 2000000 in
set_option maxRecDepth 20000 in
theorem cX3asTwin {t b : Nat} {T S : Nat → Nat} (xb : XB M Rf n t T S b) {j : Nat} (hj : j < T 2) : Ret Λ (d + 2) mX3_asTwin [.ref 0, .int (nI j)] (n, M, Rf, Lg) (some (.int (nI (S (3 + j)) - nI (T (32 + j)) + nI j))) (n, M, Rf, trc Lg 10101) 0 0 := by
  refine Ret.of rfl rfl rfl (fun κ o f hin => ?_)
  obtain ⟨hx, hc, hn, ht, hm, hr, hs, os, hb9⟩ := id xb
  have rc := hx.city hc
  obtain ⟨x0, x1, x3, x4, x5, x8, x9, x10, x11, x13, x14, x15, xN, xC4, xC16, xP, xI, xT, xL, xNm⟩ := id hx
  obtain ⟨r3, r4, r6, r7, r8, r9, r11, r12, r13, r14, r15⟩ := id rc
  obtain ⟨z0, z1, z2, z3, z4, z5, z6, z7, z8, z9, z10, z11⟩ := city_shp hc
  obtain ⟨⟨t0, t0b⟩, t1, t2, t3, tD, tC, tN⟩ := id ht
  obtain ⟨m0, m1, m5, m10, mb, mj, mc, mn, ml⟩ := id hm
  have ra := xN 28 in28
  have rt := xN 32 in32
  obtain ⟨u3, u4, u5⟩ := id ra
  obtain ⟨v3, v4, v5⟩ := id rt
  obtain ⟨s0, s1, s2, sc⟩ := id hs
  obtain ⟨os0, os1, os2, osc⟩ := id os
  refine g_aload_n (pc := 0) o 0 dX3_asTwin_0 rfl rfl ?_
  refine g_dup (pc := 1) o dX3_asTwin_1 rfl ?_
  refine g_getJ (pc := 2) o flRX3_290 (by first | assumption | rfl) (by first | assumption | omega) dX3_asTwin_2 ?_
  refine g_ldc2 (pc := 5) o ctRX3_300 dX3_asTwin_5 ?_
  refine g_ladd (pc := 8) o dX3_asTwin_8 ?_
  refine g_putJ (pc := 9) o flRX3_290 rfl (by first | assumption | rfl) (by first | assumption | omega) dX3_asTwin_9 ?_
  refine g_aload_n (pc := 12) o 0 dX3_asTwin_12 rfl rfl ?_
  refine g_iload_n (pc := 13) o 1 dX3_asTwin_13 rfl rfl ?_
  refine g_V1i (pc := 14) o lkRX3_278 cmX3_asDeputy (cX3asDeputy (Lg := trc Lg 10000) xb hj) (by first | assumption | rfl) (by first | assumption | omega) rfl rfl ⟨Nat.le_refl _, Nat.le_refl _⟩ dX3_asTwin_14 ?_
  refine g_iload_n (pc := 17) o 1 dX3_asTwin_17 rfl rfl ?_
  refine g_iadd (pc := 18) o dX3_asTwin_18 ?_
  exact g_iret (pc := 19) o f dX3_asTwin_19 rfl rfl (hp_L (trc_trc Lg 10000 101))

set_option maxHeartbeats 2000000 in
set_option maxRecDepth 20000 in
theorem cX3asVeteran {t b : Nat} {T S : Nat → Nat} (xb : XB M Rf n t T S b) {j : Nat} (hj : j < T 2) : Ret Λ (d + 1) mX3_asVeteran [.ref 0, .int (nI j)] (n, M, Rf, Lg) (some (.int (nI (S (3 + j) + S (15 + j))))) (n, M, Rf, trc Lg 100001) 0 0 := by
  refine Ret.of rfl rfl rfl (fun κ o f hin => ?_)
  obtain ⟨hx, hc, hn, ht, hm, hr, hs, os, hb9⟩ := id xb
  have rc := hx.city hc
  obtain ⟨x0, x1, x3, x4, x5, x8, x9, x10, x11, x13, x14, x15, xN, xC4, xC16, xP, xI, xT, xL, xNm⟩ := id hx
  obtain ⟨r3, r4, r6, r7, r8, r9, r11, r12, r13, r14, r15⟩ := id rc
  obtain ⟨z0, z1, z2, z3, z4, z5, z6, z7, z8, z9, z10, z11⟩ := city_shp hc
  obtain ⟨⟨t0, t0b⟩, t1, t2, t3, tD, tC, tN⟩ := id ht
  obtain ⟨m0, m1, m5, m10, mb, mj, mc, mn, ml⟩ := id hm
  have ra := xN 28 in28
  have rt := xN 32 in32
  obtain ⟨u3, u4, u5⟩ := id ra
  obtain ⟨v3, v4, v5⟩ := id rt
  obtain ⟨s0, s1, s2, sc⟩ := id hs
  obtain ⟨os0, os1, os2, osc⟩ := id os
  refine g_aload_n (pc := 0) o 0 dX3_asVeteran_0 rfl rfl ?_
  refine g_dup (pc := 1) o dX3_asVeteran_1 rfl ?_
  refine g_getJ (pc := 2) o flRX3_290 (by first | assumption | rfl) (by first | assumption | omega) dX3_asVeteran_2 ?_
  refine g_ldc2 (pc := 5) o ctRX3_302 dX3_asVeteran_5 ?_
  refine g_ladd (pc := 8) o dX3_asVeteran_8 ?_
  refine g_putJ (pc := 9) o flRX3_290 rfl (by first | assumption | rfl) (by first | assumption | omega) dX3_asVeteran_9 ?_
  refine g_aload_n (pc := 12) o 0 dX3_asVeteran_12 rfl rfl ?_
  refine g_iload_n (pc := 13) o 1 dX3_asVeteran_13 rfl rfl ?_
  refine g_V1i (pc := 14) o lkRX3_272 cmX3_asCitizen (cX3asCitizen (Lg := trc Lg 100000) xb hj) (by first | assumption | rfl) (by first | assumption | omega) rfl rfl ⟨Nat.le_refl _, Nat.le_refl _⟩ dX3_asVeteran_14 ?_
  refine g_aload_n (pc := 17) o 0 dX3_asVeteran_17 rfl rfl ?_
  refine g_getR (pc := 18) o flRX3_29 (by first | assumption | rfl) (by first | assumption | omega) (by assumption) dX3_asVeteran_18 ?_
  refine g_getR (pc := 21) o flRX3_115 (by first | assumption | rfl) (by first | assumption | omega) (by assumption) dX3_asVeteran_21 ?_
  refine g_iload_n (pc := 24) o 1 dX3_asVeteran_24 rfl rfl ?_
  refine g_iald (pc := 25) o (j) (by first | assumption | rfl) (by first | assumption | omega) rfl (by omega) dX3_asVeteran_25 ?_
  rw [(sc j hj).2.2]
  refine g_iadd (pc := 26) o dX3_asVeteran_26 ?_
  exact g_iret (pc := 27) o f dX3_asVeteran_27 rfl (nI_add _ _) (hp_L (trc_trc Lg 100000 1))

def fRate (T S : Nat → Nat) (j k : Nat) : Int32 := match k with
  | 0 => nI (S (3 + j))
  | 1 => nI (S (3 + j) + pop (T (26 + j)))
  | 2 => nI (S (3 + j)) - nI (T (32 + j))
  | 3 => 2 * nI (S (3 + j) + pop (T (26 + j)))
  | 4 => nI (S (3 + j)) - nI (T (32 + j)) + nI j
  | _ => nI (S (3 + j) + S (15 + j))
def kRate (k : Nat) : Int64 := match k with
  | 0 => 1
  | 1 => 11
  | 2 => 101
  | 3 => 1011
  | 4 => 10101
  | _ => 100001
/-- rate: the answer, and what THE TRACE grows by -/
def aRate (T S : Nat → Nat) (v w : Int32) : Int32 := tbv w (T 2) (fun j => tbv v 6 (fRate T S j) (-1000000)) (-1000000)
def gRate (T : Nat → Nat) (v w : Int32) (x : Int64) : Int64 := if inn w (T 2) ∧ inn v 6 then x + kRate v.toNatClampNeg else x
theorem gRate_no {T : Nat → Nat} {v w : Int32} (Lg : HL) (h : ¬ (inn w (T 2) ∧ inn v 6)) : Lg = st2 Lg 0 16 (gRate T v w (Lg 0 16)) := by
  unfold gRate; rw [if_neg h]; funext z j; simp only [st2]; split
  · rename_i q; rw [q.1, q.2]
  · rfl
theorem gRate_yes {T : Nat → Nat} {j k : Nat} (Lg : HL) (hj : j < T 2) (h2 : T 2 ≤ 6) (hk : k < 6) : trc Lg (kRate k) = st2 Lg 0 16 (gRate T (nI k) (nI j) (Lg 0 16)) := by
  unfold gRate trc; rw [if_pos ⟨inn_nI hj (by omega), inn_nI hk (by decide)⟩, nI_clamp (by omega)]
set_option maxHeartbeats 2000000 in
set_option maxRecDepth 20000 in
theorem cX3rate {t b : Nat} {T S : Nat → Nat} (xb : XB M Rf n t T S b) {v w : Int32} : Ret Λ (d + 3) mX3_rate [.ref 0, .int v, .int w] (n, M, Rf, Lg) (some (.int (aRate T S v w))) (n, M, Rf, st2 Lg 0 16 (gRate T v w (Lg 0 16))) 0 0 := by
  refine Ret.of rfl rfl rfl (fun κ o f hin => ?_)
  obtain ⟨hx, hc, hn, ht, hm, hr, hs, os, hb9⟩ := id xb
  have rc := hx.city hc
  obtain ⟨x0, x1, x3, x4, x5, x8, x9, x10, x11, x13, x14, x15, xN, xC4, xC16, xP, xI, xT, xL, xNm⟩ := id hx
  obtain ⟨r3, r4, r6, r7, r8, r9, r11, r12, r13, r14, r15⟩ := id rc
  obtain ⟨z0, z1, z2, z3, z4, z5, z6, z7, z8, z9, z10, z11⟩ := city_shp hc
  obtain ⟨⟨t0, t0b⟩, t1, t2, t3, tD, tC, tN⟩ := id ht
  obtain ⟨m0, m1, m5, m10, mb, mj, mc, mn, ml⟩ := id hm
  have ra := xN 28 in28
  have rt := xN 32 in32
  obtain ⟨u3, u4, u5⟩ := id ra
  obtain ⟨v3, v4, v5⟩ := id rt
  obtain ⟨s0, s1, s2, sc⟩ := id hs
  obtain ⟨os0, os1, os2, osc⟩ := id os
  refine g_aload_n (pc := 0) o 0 dX3_rate_0 rfl rfl ?_
  refine g_iload_n (pc := 1) o 2 dX3_rate_1 rfl rfl ?_
  refine g_V1i (pc := 2) o lkRX3_97 cmX3_isCitizen (cX3isCitizen xb) (by first | assumption | rfl) (by first | assumption | omega) rfl rfl ⟨Nat.le_refl _, Nat.le_refl _⟩ dX3_rate_2 ?_
  refine g_if_ne (pc := 5) o 12 dX3_rate_5 (by decide) (fun q5 => ?_) (fun q5 => ?_)
  · obtain ⟨j, hj, rfl⟩ := inn_of (bi_nz.mp q5) (by omega)
    refine g_iload_n (pc := 12) o 1 dX3_rate_12 rfl rfl ?_
    rcases sw_cases v 6 (by decide) with hsw | ⟨kk, hkk, rfl⟩
    · refine g_tabO (pc := 13) o 88 dX3_rate_13 (by first | exact hsw | omega) (by decide) ?_
      refine g_ldcw (pc := 88) o ctRX3_271 dX3_rate_88 ?_
      exact g_iret (pc := 91) o f dX3_rate_91 rfl (by unfold aRate; rw [tbv_in hj (by omega), tbv_out (inn_neg hsw)]) (hp_L (gRate_no Lg (fun q => inn_neg hsw q.2)))
    · match kk, hkk with
      | 0, _ =>
        refine g_tabI (pc := 13) o 52 dX3_rate_13 (by decide) (by decide) rfl (by decide) ?_
        refine g_aload_n (pc := 52) o 0 dX3_rate_52 rfl rfl ?_
        refine g_iload_n (pc := 53) o 2 dX3_rate_53 rfl rfl ?_
        refine g_V1i (pc := 54) o lkRX3_272 cmX3_asCitizen (cX3asCitizen xb hj) (by first | assumption | rfl) (by first | assumption | omega) rfl rfl ⟨Nat.le_refl _, Nat.le_refl _⟩ dX3_rate_54 ?_
        exact g_iret (pc := 57) o f dX3_rate_57 rfl (by unfold aRate; rw [tbv_in hj (by omega), tbv_in (by decide) (by decide)]; rfl) (hp_L (gRate_yes (k := 0) Lg hj t2 (by decide)))
      | 1, _ =>
        refine g_tabI (pc := 13) o 58 dX3_rate_13 (by decide) (by decide) rfl (by decide) ?_
        refine g_aload_n (pc := 58) o 0 dX3_rate_58 rfl rfl ?_
        refine g_iload_n (pc := 59) o 2 dX3_rate_59 rfl rfl ?_
        refine g_V1i (pc := 60) o lkRX3_275 cmX3_asBaker (cX3asBaker xb hj) (by first | assumption | rfl) (by first | assumption | omega) rfl rfl ⟨Nat.le_refl _, Nat.le_refl _⟩ dX3_rate_60 ?_
        exact g_iret (pc := 63) o f dX3_rate_63 rfl (by unfold aRate; rw [tbv_in hj (by omega), tbv_in (by decide) (by decide)]; rfl) (hp_L (gRate_yes (k := 1) Lg hj t2 (by decide)))
      | 2, _ =>
        refine g_tabI (pc := 13) o 64 dX3_rate_13 (by decide) (by decide) rfl (by decide) ?_
        refine g_aload_n (pc := 64) o 0 dX3_rate_64 rfl rfl ?_
        refine g_iload_n (pc := 65) o 2 dX3_rate_65 rfl rfl ?_
        refine g_V1i (pc := 66) o lkRX3_278 cmX3_asDeputy (cX3asDeputy xb hj) (by first | assumption | rfl) (by first | assumption | omega) rfl rfl ⟨Nat.le_refl _, Nat.le_refl _⟩ dX3_rate_66 ?_
        exact g_iret (pc := 69) o f dX3_rate_69 rfl (by unfold aRate; rw [tbv_in hj (by omega), tbv_in (by decide) (by decide)]; rfl) (hp_L (gRate_yes (k := 2) Lg hj t2 (by decide)))
      | 3, _ =>
        refine g_tabI (pc := 13) o 70 dX3_rate_13 (by decide) (by decide) rfl (by decide) ?_
        refine g_aload_n (pc := 70) o 0 dX3_rate_70 rfl rfl ?_
        refine g_iload_n (pc := 71) o 2 dX3_rate_71 rfl rfl ?_
        refine g_V1i (pc := 72) o lkRX3_281 cmX3_asGuard (cX3asGuard xb hj) (by first | assumption | rfl) (by first | assumption | omega) rfl rfl ⟨Nat.le_refl _, Nat.le_refl _⟩ dX3_rate_72 ?_
        exact g_iret (pc := 75) o f dX3_rate_75 rfl (by unfold aRate; rw [tbv_in hj (by omega), tbv_in (by decide) (by decide)]; rfl) (hp_L (gRate_yes (k := 3) Lg hj t2 (by decide)))
      | 4, _ =>
        refine g_tabI (pc := 13) o 76 dX3_rate_13 (by decide) (by decide) rfl (by decide) ?_
        refine g_aload_n (pc := 76) o 0 dX3_rate_76 rfl rfl ?_
        refine g_iload_n (pc := 77) o 2 dX3_rate_77 rfl rfl ?_
        refine g_V1i (pc := 78) o lkRX3_284 cmX3_asTwin (cX3asTwin xb hj) (by first | assumption | rfl) (by first | assumption | omega) rfl rfl ⟨Nat.le_refl _, Nat.le_refl _⟩ dX3_rate_78 ?_
        exact g_iret (pc := 81) o f dX3_rate_81 rfl (by unfold aRate; rw [tbv_in hj (by omega), tbv_in (by decide) (by decide)]; rfl) (hp_L (gRate_yes (k := 4) Lg hj t2 (by decide)))
      | 5, _ =>
        refine g_tabI (pc := 13) o 82 dX3_rate_13 (by decide) (by decide) rfl (by decide) ?_
        refine g_aload_n (pc := 82) o 0 dX3_rate_82 rfl rfl ?_
        refine g_iload_n (pc := 83) o 2 dX3_rate_83 rfl rfl ?_
        refine g_V1i (pc := 84) o lkRX3_287 cmX3_asVeteran (cX3asVeteran xb hj) (by first | assumption | rfl) (by first | assumption | omega) rfl rfl ⟨Nat.le_refl _, Nat.le_refl _⟩ dX3_rate_84 ?_
        exact g_iret (pc := 87) o f dX3_rate_87 rfl (by unfold aRate; rw [tbv_in hj (by omega), tbv_in (by decide) (by decide)]; rfl) (hp_L (gRate_yes (k := 5) Lg hj t2 (by decide)))
  · refine g_ldcw (pc := 8) o ctRX3_271 dX3_rate_8 ?_
    exact g_iret (pc := 11) o f dX3_rate_11 rfl (by unfold aRate; rw [tbv_out (bi_z.mp q5)]) (hp_L (gRate_no Lg (fun q => bi_z.mp q5 q.1)))

set_option maxHeartbeats 2000000 in
set_option maxRecDepth 20000 in
theorem cX3wants {t b : Nat} {T S : Nat → Nat} (xb : XB M Rf n t T S b) {v : Int32} : Ret Λ (d + 2) mX3_wants [.ref 0, .int v] (n, M, Rf, Lg) (some (.int (tbv v (T 0) (fun j => nI (pop (mk (cou T S) (T 2) &&& liv T j))) (-1)))) (n, M, Rf, Lg) 0 0 := by
  refine Ret.of rfl rfl rfl (fun κ o f hin => ?_)
  obtain ⟨hx, hc, hn, ht, hm, hr, hs, os, hb9⟩ := id xb
  have rc := hx.city hc
  obtain ⟨x0, x1, x3, x4, x5, x8, x9, x10, x11, x13, x14, x15, xN, xC4, xC16, xP, xI, xT, xL, xNm⟩ := id hx
  obtain ⟨r3, r4, r6, r7, r8, r9, r11, r12, r13, r14, r15⟩ := id rc
  obtain ⟨z0, z1, z2, z3, z4, z5, z6, z7, z8, z9, z10, z11⟩ := city_shp hc
  obtain ⟨⟨t0, t0b⟩, t1, t2, t3, tD, tC, tN⟩ := id ht
  obtain ⟨m0, m1, m5, m10, mb, mj, mc, mn, ml⟩ := id hm
  have ra := xN 28 in28
  have rt := xN 32 in32
  obtain ⟨u3, u4, u5⟩ := id ra
  obtain ⟨v3, v4, v5⟩ := id rt
  obtain ⟨s0, s1, s2, sc⟩ := id hs
  obtain ⟨os0, os1, os2, osc⟩ := id os
  refine g_aload_n (pc := 0) o 0 dX3_wants_0 rfl rfl ?_
  refine g_iload_n (pc := 1) o 1 dX3_wants_1 rfl rfl ?_
  refine g_V1i (pc := 2) o lkRX3_87 cmX3_isDistrict (cX3isDistrict xb) (by first | assumption | rfl) (by first | assumption | omega) rfl rfl ⟨Nat.le_refl _, Nat.le_refl _⟩ dX3_wants_2 ?_
  refine g_if_ne (pc := 5) o 10 dX3_wants_5 (by decide) (fun q5 => ?_) (fun q5 => ?_)
  · obtain ⟨j, hj, rfl⟩ := inn_of (bi_nz.mp q5) (by omega)
    refine g_aload_n (pc := 10) o 0 dX3_wants_10 rfl rfl ?_
    refine g_getR (pc := 11) o flRX3_19 (by first | assumption | rfl) (by first | assumption | omega) (by assumption) dX3_wants_11 ?_
    refine g_aload_n (pc := 14) o 0 dX3_wants_14 rfl rfl ?_
    refine g_getR (pc := 15) o flRX3_29 (by first | assumption | rfl) (by first | assumption | omega) (by assumption) dX3_wants_15 ?_
    refine g_V1i (pc := 18) o lkRX3_240 cmX0_couldLieDown (cX0could hc hn rc ht hm in28 ra hs os) (by first | assumption | rfl) (by first | assumption | omega) rfl rfl ⟨Nat.le_refl _, Nat.le_refl _⟩ dX3_wants_18 ?_
    refine g_aload_n (pc := 21) o 0 dX3_wants_21 rfl rfl ?_
    refine g_getR (pc := 22) o flRX3_19 (by first | assumption | rfl) (by first | assumption | omega) (by assumption) dX3_wants_22 ?_
    refine g_getR (pc := 25) o flRX3_244 (by first | assumption | rfl) (by first | assumption | omega) (by assumption) dX3_wants_25 ?_
    refine g_iload_n (pc := 28) o 1 dX3_wants_28 rfl rfl ?_
    refine g_iald (pc := 29) o (j) (by first | assumption | rfl) (by first | assumption | omega) rfl (by omega) dX3_wants_29 ?_
    rw [ml j (by omega)]
    refine g_iand (pc := 30) o dX3_wants_30 ?_
    rw [n_and]
    refine g_S1i (pc := 31) o lkRX3_179 cmJ6_bitCount_0f7a4 (cbc (Nat.lt_trans (and6 (liv6 t2 _)) (by decide))) rfl rfl ⟨Nat.le_refl _, Nat.le_refl _⟩ dX3_wants_31 ?_
    exact g_iret (pc := 34) o f dX3_wants_34 rfl (by rw [tbv_in hj (by omega)]) rfl
  · refine g_iconst (pc := 8) (v := -1) o dX3_wants_8 (by decide) ?_
    exact g_iret (pc := 9) o f dX3_wants_9 rfl (by rw [tbv_out (bi_z.mp q5)]) rfl

set_option maxHeartbeats 2000000 in
set_option maxRecDepth 20000 in
theorem cX3lapses {t b : Nat} {T S : Nat → Nat} (xb : XB M Rf n t T S b) {w : Nat} (hw : w < 256) : Ret Λ (d + 1) mX3_lapses [.ref 0, .int (nI w)] (n, M, Rf, Lg) (some (.int (bi (pop w < T 1)))) (n, M, Rf, Lg) 0 0 := by
  refine Ret.of rfl rfl rfl (fun κ o f hin => ?_)
  obtain ⟨hx, hc, hn, ht, hm, hr, hs, os, hb9⟩ := id xb
  have rc := hx.city hc
  obtain ⟨x0, x1, x3, x4, x5, x8, x9, x10, x11, x13, x14, x15, xN, xC4, xC16, xP, xI, xT, xL, xNm⟩ := id hx
  obtain ⟨r3, r4, r6, r7, r8, r9, r11, r12, r13, r14, r15⟩ := id rc
  obtain ⟨z0, z1, z2, z3, z4, z5, z6, z7, z8, z9, z10, z11⟩ := city_shp hc
  obtain ⟨⟨t0, t0b⟩, t1, t2, t3, tD, tC, tN⟩ := id ht
  obtain ⟨m0, m1, m5, m10, mb, mj, mc, mn, ml⟩ := id hm
  have ra := xN 28 in28
  have rt := xN 32 in32
  obtain ⟨u3, u4, u5⟩ := id ra
  obtain ⟨v3, v4, v5⟩ := id rt
  obtain ⟨s0, s1, s2, sc⟩ := id hs
  obtain ⟨os0, os1, os2, osc⟩ := id os
  refine g_iload_n (pc := 0) o 1 dX3_lapses_0 rfl rfl ?_
  refine g_S1i (pc := 1) o lkRX3_179 cmJ6_bitCount_0f7a4 (cbc hw) rfl rfl ⟨Nat.le_refl _, Nat.le_refl _⟩ dX3_lapses_1 ?_
  refine g_aload_n (pc := 4) o 0 dX3_lapses_4 rfl rfl ?_
  refine g_getR (pc := 5) o flRX3_19 (by first | assumption | rfl) (by first | assumption | omega) (by assumption) dX3_lapses_5 ?_
  refine g_getI (pc := 8) o flRX3_185 (by first | assumption | rfl) (by first | assumption | omega) dX3_lapses_8 ?_
  refine g_icmp_ge (pc := 11) o 18 dX3_lapses_11 (by decide) (fun q11 => ?_) (fun q11 => ?_)
  · refine g_iconst (pc := 18) (v := 0) o dX3_lapses_18 (by decide) ?_
    exact g_iret (pc := 19) o f dX3_lapses_19 rfl (by have hp := pop_le w; first | exact (bi_f (by have := (le_N (by omega) (by omega) m1 rfl).mp q11; omega)).symm | exact (bi_t (by have := mt (le_N (by omega) (by omega) m1 rfl).mpr q11; omega)).symm) rfl
  · refine g_iconst (pc := 14) (v := 1) o dX3_lapses_14 (by decide) ?_
    refine g_goto (pc := 15) o 19 dX3_lapses_15 (by decide) ?_
    exact g_iret (pc := 19) o f dX3_lapses_19 rfl (by have hp := pop_le w; first | exact (bi_f (by have := (le_N (by omega) (by omega) m1 rfl).mp q11; omega)).symm | exact (bi_t (by have := mt (le_N (by omega) (by omega) m1 rfl).mpr q11; omega)).symm) rfl

/-- who could lie down, but one -/
def cdA (T S : Nat → Nat) (ab : Int32) (i : Nat) : Bool := cou T S i && !decide (nI i = ab)
def wA (T S : Nat → Nat) (ab : Int32) : Nat := slp T S (cdA T S ab)
theorem wA6 {T S : Nat → Nat} {ab : Int32} (h : T 2 ≤ 6) : wA T S ab < 64 := slp6 h
set_option maxHeartbeats 2000000 in
set_option maxRecDepth 20000 in
theorem cX3goBy {t b : Nat} {T S : Nat → Nat} (xb : XB M Rf n t T S b) {a b2 : Nat} {S2 : Nat → Nat} (ha : a ∈ nows) (hs2 : nwS M a S2 (T 2)) (os2 : okS S2 (T 2) b2) {ab : Int32} : Ret Λ (d + 4) mX3_goBy [.ref 0, .ref a, .int ab] (n, M, Rf, Lg) (some (.int (nI (wA T S2 ab)))) (n, passM M a (wA T S2 ab) (T 2) (T 1), Rf, Lg) 0 0 := by
  refine Ret.of rfl rfl rfl (fun κ o f hin => ?_)
  obtain ⟨hx, hc, hn, ht, hm, hr, hs, os, hb9⟩ := id xb
  have rc := hx.city hc
  obtain ⟨x0, x1, x3, x4, x5, x8, x9, x10, x11, x13, x14, x15, xN, xC4, xC16, xP, xI, xT, xL, xNm⟩ := id hx
  obtain ⟨r3, r4, r6, r7, r8, r9, r11, r12, r13, r14, r15⟩ := id rc
  obtain ⟨z0, z1, z2, z3, z4, z5, z6, z7, z8, z9, z10, z11⟩ := city_shp hc
  obtain ⟨⟨t0, t0b⟩, t1, t2, t3, tD, tC, tN⟩ := id ht
  obtain ⟨m0, m1, m5, m10, mb, mj, mc, mn, ml⟩ := id hm
  have ra := xN 28 in28
  have rt := xN 32 in32
  obtain ⟨u3, u4, u5⟩ := id ra
  obtain ⟨v3, v4, v5⟩ := id rt
  obtain ⟨s0, s1, s2, sc⟩ := id hs
  obtain ⟨os0, os1, os2_, osc⟩ := id os
  obtain ⟨y0, y1, y2, y3, ylt⟩ := now_shp ha
  refine g_aload_n (pc := 0) o 0 dX3_goBy_0 rfl rfl ?_
  refine g_getR (pc := 1) o flRX3_19 (by first | assumption | rfl) (by first | assumption | omega) (by assumption) dX3_goBy_1 ?_
  refine g_aload_n (pc := 4) o 1 dX3_goBy_4 rfl rfl ?_
  refine g_iload_n (pc := 5) o 2 dX3_goBy_5 rfl rfl ?_
  refine g_V2i (pc := 6) o lkRX3_172 cmX0_asleep (cX0asleep hc hn rc ht hm ha (hx.now ha) hs2 os2 hr) (by first | assumption | rfl) (by first | assumption | omega) rfl rfl ⟨Nat.le_refl _, Nat.le_refl _⟩ dX3_goBy_6 ?_
  refine g_istore_n (pc := 9) o 3 dX3_goBy_9 rfl rfl ?_
  refine g_aload_n (pc := 10) o 1 dX3_goBy_10 rfl rfl ?_
  refine g_aload_n (pc := 11) o 0 dX3_goBy_11 rfl rfl ?_
  refine g_getR (pc := 12) o flRX3_19 (by first | assumption | rfl) (by first | assumption | omega) (by assumption) dX3_goBy_12 ?_
  refine g_iload_n (pc := 15) o 3 dX3_goBy_15 rfl rfl ?_
  refine g_V2v (pc := 16) o lkRX3_175 cmX1_pass (cX1pass ha (hx.now ha) hc hn t1 t2 m1 m5 (Nat.lt_trans (slp6 t2) (by decide))) (by first | assumption | rfl) (by first | assumption | omega) rfl rfl ⟨Nat.le_refl _, Nat.le_refl _⟩ dX3_goBy_16 ?_
  refine g_iload_n (pc := 19) o 3 dX3_goBy_19 rfl rfl ?_
  exact g_iret (pc := 20) o f dX3_goBy_20 rfl rfl rfl

set_option maxHeartbeats 2000000 in
set_option maxRecDepth 20000 in
theorem cX3hourAhead {t b : Nat} {T S : Nat → Nat} (xb : XB M Rf n t T S b) {k : Nat} (hk : k < 1000) : Ret Λ (d) mX3_hourAhead [.ref 0, .int (nI k)] (n, M, Rf, Lg) (some (.int (nI ((S 1 + k) % 8)))) (n, M, Rf, Lg) 0 0 := by
  refine Ret.of rfl rfl rfl (fun κ o f hin => ?_)
  obtain ⟨hx, hc, hn, ht, hm, hr, hs, os, hb9⟩ := id xb
  have rc := hx.city hc
  obtain ⟨x0, x1, x3, x4, x5, x8, x9, x10, x11, x13, x14, x15, xN, xC4, xC16, xP, xI, xT, xL, xNm⟩ := id hx
  obtain ⟨r3, r4, r6, r7, r8, r9, r11, r12, r13, r14, r15⟩ := id rc
  obtain ⟨z0, z1, z2, z3, z4, z5, z6, z7, z8, z9, z10, z11⟩ := city_shp hc
  obtain ⟨⟨t0, t0b⟩, t1, t2, t3, tD, tC, tN⟩ := id ht
  obtain ⟨m0, m1, m5, m10, mb, mj, mc, mn, ml⟩ := id hm
  have ra := xN 28 in28
  have rt := xN 32 in32
  obtain ⟨u3, u4, u5⟩ := id ra
  obtain ⟨v3, v4, v5⟩ := id rt
  obtain ⟨s0, s1, s2, sc⟩ := id hs
  obtain ⟨os0, os1, os2, osc⟩ := id os
  refine g_aload_n (pc := 0) o 0 dX3_hourAhead_0 rfl rfl ?_
  refine g_getR (pc := 1) o flRX3_29 (by first | assumption | rfl) (by first | assumption | omega) (by assumption) dX3_hourAhead_1 ?_
  refine g_getI (pc := 4) o flRX3_133 (by first | assumption | rfl) (by first | assumption | omega) dX3_hourAhead_4 ?_
  refine g_iload_n (pc := 7) o 1 dX3_hourAhead_7 rfl rfl ?_
  refine g_iadd (pc := 8) o dX3_hourAhead_8 ?_
  refine g_bipush (pc := 9) (v := 8) o dX3_hourAhead_9 (by decide) ?_
  refine g_irem (pc := 11) o dX3_hourAhead_11 (by decide) ?_
  exact g_iret (pc := 12) o f dX3_hourAhead_12 rfl (by rw [s1, nI_add]; exact pk_rem (a := S 1 + k) (d := 8) (by omega) (by decide) (by decide)) rfl

end M6
end
section
section M7
variable {Λ : PL} {d n : Nat} {M : HM} {Rf : HR} {Lg : HL}

theorem st2_same {α : Type} (M : Nat → Nat → α) (k j : Nat) (v : α) : st2 M k j v k j = v := by simp [st2]
theorem st2_ne2 {α : Type} (M : Nat → Nat → α) {k j : Nat} (v : α) {x y : Nat} (h : ¬ (x = k ∧ y = j)) : st2 M k j v x y = M x y := by simp [st2, h]
/-- the present is remembered -/
def rmbM (M : HM) (lat pk : Nat) : HM := st2 (bcmM (st2 M 0 6 (nI ((lat + 1) % 10))) (48 + 4 * ((lat + 1) % 10)) 28) 0 7 (nI (min (pk + 1) 10))
theorem rmbM_ne (M : HM) (lat pk : Nat) {z : Nat} (h1 : z ≠ 0) (h : z < 48 ∨ 88 ≤ z) : rmbM M lat pk z = M z := by
  have hl : (lat + 1) % 10 < 10 := Nat.mod_lt _ (by decide)
  unfold rmbM
  rw [st2_ne _ _ _ h1, bcmM_ne _ _ _ (by omega), st2_ne _ _ _ h1]
set_option maxHeartbeats 2000000 in
set_option maxRecDepth 20000 in
theorem cX3remember {t b : Nat} {T S : Nat → Nat} (xb : XB M Rf n t T S b) {lat pk : Nat} (hlat : M 0 6 = nI lat) (hl10 : lat < 10) (hpk : M 0 7 = nI pk) (hp10 : pk ≤ 10) : Ret Λ (d + 3) mX3_remember [.ref 0] (n, M, Rf, Lg) none (n, rmbM M lat pk, Rf, Lg) 0 0 := by
  refine Ret.of rfl rfl rfl (fun κ o f hin => ?_)
  obtain ⟨hx, hc, hn, ht, hm, hr, hs, os, hb9⟩ := id xb
  have rc := hx.city hc
  obtain ⟨x0, x1, x3, x4, x5, x8, x9, x10, x11, x13, x14, x15, xN, xC4, xC16, xP, xI, xT, xL, xNm⟩ := id hx
  obtain ⟨r3, r4, r6, r7, r8, r9, r11, r12, r13, r14, r15⟩ := id rc
  obtain ⟨z0, z1, z2, z3, z4, z5, z6, z7, z8, z9, z10, z11⟩ := city_shp hc
  obtain ⟨⟨t0, t0b⟩, t1, t2, t3, tD, tC, tN⟩ := id ht
  obtain ⟨m0, m1, m5, m10, mb, mj, mc, mn, ml⟩ := id hm
  have ra := xN 28 in28
  have rt := xN 32 in32
  obtain ⟨u3, u4, u5⟩ := id ra
  obtain ⟨v3, v4, v5⟩ := id rt
  obtain ⟨s0, s1, s2, sc⟩ := id hs
  obtain ⟨os0, os1, os2, osc⟩ := id os
  obtain ⟨l1, hl1⟩ : ∃ l1, l1 = (lat + 1) % 10 := ⟨_, rfl⟩
  have hl1b : l1 < 10 := by omega
  obtain ⟨y0, y1, y2, y3, ylt⟩ := now_shp (past_in l1 hl1b)
  refine g_aload_n (pc := 0) o 0 dX3_remember_0 rfl rfl ?_
  refine g_aload_n (pc := 1) o 0 dX3_remember_1 rfl rfl ?_
  refine g_getI (pc := 2) o flRX3_159 (by first | assumption | rfl) (by first | assumption | omega) dX3_remember_2 ?_
  refine g_iconst (pc := 5) (v := 1) o dX3_remember_5 (by decide) ?_
  refine g_iadd (pc := 6) o dX3_remember_6 ?_
  refine g_bipush (pc := 7) (v := 10) o dX3_remember_7 (by decide) ?_
  refine g_irem (pc := 9) o dX3_remember_9 (by decide) ?_
  rw [hlat, nI_1, show nI (lat + 1) - nI (lat + 1) / 10 * 10 = nI ((lat + 1) % 10) from pk_rem (by omega) (by decide) (by decide), ← hl1]
  refine g_putI (pc := 10) o flRX3_159 rfl (by first | assumption | rfl) (by first | assumption | omega) rfl rfl dX3_remember_10 ?_
  refine g_aload_n (pc := 13) o 0 dX3_remember_13 rfl rfl ?_
  refine g_getR (pc := 14) o flRX3_36 (by first | assumption | rfl) (by first | assumption | omega) (by assumption) dX3_remember_14 ?_
  refine g_aload_n (pc := 17) o 0 dX3_remember_17 rfl rfl ?_
  refine g_getI (pc := 18) o flRX3_159 (by first | assumption | rfl) (by first | assumption | omega) dX3_remember_18 ?_
  rw [st2_same]
  refine g_aald (pc := 21) o (l1) (by first | assumption | rfl) (by first | exact Or.inl rfl | exact Or.inr rfl) (by first | assumption | omega) rfl (by omega) (xP l1 hl1b) dX3_remember_21 ?_
  refine g_aload_n (pc := 22) o 0 dX3_remember_22 rfl rfl ?_
  refine g_getR (pc := 23) o flRX3_29 (by first | assumption | rfl) (by first | assumption | omega) (by assumption) dX3_remember_23 ?_
  refine g_V1v (pc := 26) o lkRX3_162 cmX1_become (cX1become (past_in l1 hl1b) (xN _ (past_in l1 hl1b)) in28 ra hn) (by first | assumption | rfl) (by first | assumption | omega) rfl rfl ⟨Nat.le_refl _, Nat.le_refl _⟩ dX3_remember_26 ?_
  refine g_aload_n (pc := 29) o 0 dX3_remember_29 rfl rfl ?_
  refine g_aload_n (pc := 30) o 0 dX3_remember_30 rfl rfl ?_
  refine g_getI (pc := 31) o flRX3_81 (by first | assumption | rfl) (by first | assumption | omega) dX3_remember_31 ?_
  rw [show bcmM (st2 M 0 6 (nI l1)) (48 + 4 * l1) 28 0 7 = nI pk from by rw [bcmM_ne _ _ _ (by omega), st2_ne2 _ _ (by omega)]; exact hpk]
  refine g_iconst (pc := 34) (v := 1) o dX3_remember_34 (by decide) ?_
  refine g_iadd (pc := 35) o dX3_remember_35 ?_
  rw [nI_1]
  refine g_bipush (pc := 36) (v := 10) o dX3_remember_36 (by decide) ?_
  refine g_min (pc := 38) o lkRX3_166 rfl rfl ⟨Nat.le_refl _, Nat.le_refl _⟩ dX3_remember_38 ?_ st_min ini_math co_min
  rw [show (if (10 : Int32) < nI (pk + 1) then 10 else nI (pk + 1)) = nI (min (pk + 1) 10) from n_min (a := pk + 1) (b := 10) (by omega) (by decide)]
  refine g_putI (pc := 41) o flRX3_81 rfl (by first | assumption | rfl) (by first | assumption | omega) rfl rfl dX3_remember_41 ?_
  exact g_vret (pc := 44) o f dX3_remember_44 (hp_M (by unfold rmbM; rw [← hl1]))

def mUndo (M : HM) (lat pk : Nat) : HM := if pk = 0 then M else st2 (st2 (bcmM M 28 (48 + 4 * lat)) 0 6 (nI ((lat + 9) % 10))) 0 7 (nI (pk - 1))
def aUndo (pk : Nat) : Int32 := if pk = 0 then -2 else nI (pk - 1)
theorem n_sub1 {a : Nat} (h : 1 ≤ a) : nI a - 1 = nI (a - 1) := by
  obtain ⟨k, rfl⟩ : ∃ k, a = k + 1 := ⟨a - 1, by omega⟩
  exact nI_pred k
set_option maxHeartbeats 2000000 in
set_option maxRecDepth 20000 in
theorem cX3undo {t b : Nat} {T S : Nat → Nat} (xb : XB M Rf n t T S b) {lat pk : Nat} (hlat : M 0 6 = nI lat) (hl10 : lat < 10) (hpk : M 0 7 = nI pk) (hp10 : pk ≤ 10) : Ret Λ (d + 3) mX3_undo [.ref 0] (n, M, Rf, Lg) (some (.int (aUndo pk))) (n, mUndo M lat pk, Rf, Lg) 0 0 := by
  refine Ret.of rfl rfl rfl (fun κ o f hin => ?_)
  obtain ⟨hx, hc, hn, ht, hm, hr, hs, os, hb9⟩ := id xb
  have rc := hx.city hc
  obtain ⟨x0, x1, x3, x4, x5, x8, x9, x10, x11, x13, x14, x15, xN, xC4, xC16, xP, xI, xT, xL, xNm⟩ := id hx
  obtain ⟨r3, r4, r6, r7, r8, r9, r11, r12, r13, r14, r15⟩ := id rc
  obtain ⟨z0, z1, z2, z3, z4, z5, z6, z7, z8, z9, z10, z11⟩ := city_shp hc
  obtain ⟨⟨t0, t0b⟩, t1, t2, t3, tD, tC, tN⟩ := id ht
  obtain ⟨m0, m1, m5, m10, mb, mj, mc, mn, ml⟩ := id hm
  have ra := xN 28 in28
  have rt := xN 32 in32
  obtain ⟨u3, u4, u5⟩ := id ra
  obtain ⟨v3, v4, v5⟩ := id rt
  obtain ⟨s0, s1, s2, sc⟩ := id hs
  obtain ⟨os0, os1, os2, osc⟩ := id os
  refine g_aload_n (pc := 0) o 0 dX3_undo_0 rfl rfl ?_
  refine g_getI (pc := 1) o flRX3_81 (by first | assumption | rfl) (by first | assumption | omega) dX3_undo_1 ?_
  refine g_iconst (pc := 4) (v := 1) o dX3_undo_4 (by decide) ?_
  refine g_icmp_ge (pc := 5) o 11 dX3_undo_5 (by decide) (fun q5 => ?_) (fun q5 => ?_)
  · have hp1 : 1 ≤ pk := (le_N (a := 1) (by decide) (by omega) rfl hpk).mp q5
    refine g_aload_n (pc := 11) o 0 dX3_undo_11 rfl rfl ?_
    refine g_getR (pc := 12) o flRX3_29 (by first | assumption | rfl) (by first | assumption | omega) (by assumption) dX3_undo_12 ?_
    refine g_aload_n (pc := 15) o 0 dX3_undo_15 rfl rfl ?_
    refine g_getR (pc := 16) o flRX3_36 (by first | assumption | rfl) (by first | assumption | omega) (by assumption) dX3_undo_16 ?_
    refine g_aload_n (pc := 19) o 0 dX3_undo_19 rfl rfl ?_
    refine g_getI (pc := 20) o flRX3_159 (by first | assumption | rfl) (by first | assumption | omega) dX3_undo_20 ?_
    refine g_aald (pc := 23) o (lat) (by first | assumption | rfl) (by first | exact Or.inl rfl | exact Or.inr rfl) (by first | assumption | omega) hlat (by omega) (xP lat hl10) dX3_undo_23 ?_
    refine g_V1v (pc := 24) o lkRX3_162 cmX1_become (cX1become in28 ra (past_in lat hl10) (xN _ (past_in lat hl10)) hn) (by first | assumption | rfl) (by first | assumption | omega) rfl rfl ⟨Nat.le_refl _, Nat.le_refl _⟩ dX3_undo_24 ?_
    refine g_aload_n (pc := 27) o 0 dX3_undo_27 rfl rfl ?_
    refine g_aload_n (pc := 28) o 0 dX3_undo_28 rfl rfl ?_
    refine g_getI (pc := 29) o flRX3_159 (by first | assumption | rfl) (by first | assumption | omega) dX3_undo_29 ?_
    rw [show bcmM M 28 (48 + 4 * lat) 0 6 = nI lat from by rw [bcmM_ne _ _ _ (by omega)]; exact hlat]
    refine g_bipush (pc := 32) (v := 10) o dX3_undo_32 (by decide) ?_
    refine g_iadd (pc := 34) o dX3_undo_34 ?_
    refine g_iconst (pc := 35) (v := 1) o dX3_undo_35 (by decide) ?_
    refine g_isub (pc := 36) o dX3_undo_36 ?_
    refine g_bipush (pc := 37) (v := 10) o dX3_undo_37 (by decide) ?_
    refine g_irem (pc := 39) o dX3_undo_39 (by decide) ?_
    rw [show nI lat + 10 - 1 = nI (lat + 9) from by rw [show (10 : Int32) = nI 10 from rfl, nI_add, n_sub1 (by omega)]; rfl, show nI (lat + 9) - nI (lat + 9) / 10 * 10 = nI ((lat + 9) % 10) from pk_rem (by omega) (by decide) (by decide)]
    refine g_putI (pc := 40) o flRX3_159 rfl (by first | assumption | rfl) (by first | assumption | omega) rfl rfl dX3_undo_40 ?_
    refine g_aload_n (pc := 43) o 0 dX3_undo_43 rfl rfl ?_
    refine g_dup (pc := 44) o dX3_undo_44 rfl ?_
    refine g_getI (pc := 45) o flRX3_81 (by first | assumption | rfl) (by first | assumption | omega) dX3_undo_45 ?_
    rw [show st2 (bcmM M 28 (48 + 4 * lat)) 0 6 (nI ((lat + 9) % 10)) 0 7 = nI pk from by rw [st2_ne2 _ _ (by omega), bcmM_ne _ _ _ (by omega)]; exact hpk]
    refine g_iconst (pc := 48) (v := 1) o dX3_undo_48 (by decide) ?_
    refine g_isub (pc := 49) o dX3_undo_49 ?_
    rw [n_sub1 hp1]
    refine g_putI (pc := 50) o flRX3_81 rfl (by first | assumption | rfl) (by first | assumption | omega) rfl rfl dX3_undo_50 ?_
    refine g_aload_n (pc := 53) o 0 dX3_undo_53 rfl rfl ?_
    refine g_getI (pc := 54) o flRX3_81 (by first | assumption | rfl) (by first | assumption | omega) dX3_undo_54 ?_
    exact g_iret (pc := 57) o f dX3_undo_57 rfl (by rw [st2_same]; unfold aUndo; rw [if_neg (by omega)]) (hp_M (by unfold mUndo; rw [if_neg (by omega)]))
  · have hp0 : pk = 0 := by have := mt (le_N (a := 1) (by decide) (by omega) rfl hpk).mpr q5; omega
    refine g_bipush (pc := 8) (v := -2) o dX3_undo_8 (by decide) ?_
    exact g_iret (pc := 10) o f dX3_undo_10 rfl (by unfold aUndo; rw [if_pos hp0]) (hp_M (by unfold mUndo; rw [if_pos hp0]))

def mCalls (T : Nat → Nat) (M : HM) (lat pk : Nat) (v w : Int32) : HM := if inn v (T 2) ∧ inn w 256 then st2 (rmbM M lat pk) 30 v.toNatClampNeg w else M
def aCalls (T S : Nat → Nat) (v w : Int32) : Int32 := if inn v (T 2) ∧ inn w 256 then nI (S (9 + v.toNatClampNeg)) else -1
set_option maxHeartbeats 2000000 in
set_option maxRecDepth 20000 in
theorem cX3calls {t b : Nat} {T S : Nat → Nat} (xb : XB M Rf n t T S b) {lat pk : Nat} (hlat : M 0 6 = nI lat) (hl10 : lat < 10) (hpk : M 0 7 = nI pk) (hp10 : pk ≤ 10) {v w : Int32} : Ret Λ (d + 4) mX3_calls [.ref 0, .int v, .int w] (n, M, Rf, Lg) (some (.int (aCalls T S v w))) (n, mCalls T M lat pk v w, Rf, Lg) 0 0 := by
  refine Ret.of rfl rfl rfl (fun κ o f hin => ?_)
  obtain ⟨hx, hc, hn, ht, hm, hr, hs, os, hb9⟩ := id xb
  have rc := hx.city hc
  obtain ⟨x0, x1, x3, x4, x5, x8, x9, x10, x11, x13, x14, x15, xN, xC4, xC16, xP, xI, xT, xL, xNm⟩ := id hx
  obtain ⟨r3, r4, r6, r7, r8, r9, r11, r12, r13, r14, r15⟩ := id rc
  obtain ⟨z0, z1, z2, z3, z4, z5, z6, z7, z8, z9, z10, z11⟩ := city_shp hc
  obtain ⟨⟨t0, t0b⟩, t1, t2, t3, tD, tC, tN⟩ := id ht
  obtain ⟨m0, m1, m5, m10, mb, mj, mc, mn, ml⟩ := id hm
  have ra := xN 28 in28
  have rt := xN 32 in32
  obtain ⟨u3, u4, u5⟩ := id ra
  obtain ⟨v3, v4, v5⟩ := id rt
  obtain ⟨s0, s1, s2, sc⟩ := id hs
  obtain ⟨os0, os1, os2, osc⟩ := id os
  refine g_aload_n (pc := 0) o 0 dX3_calls_0 rfl rfl ?_
  refine g_iload_n (pc := 1) o 1 dX3_calls_1 rfl rfl ?_
  refine g_V1i (pc := 2) o lkRX3_97 cmX3_isCitizen (cX3isCitizen xb) (by first | assumption | rfl) (by first | assumption | omega) rfl rfl ⟨Nat.le_refl _, Nat.le_refl _⟩ dX3_calls_2 ?_
  refine g_if_eq (pc := 5) o 19 dX3_calls_5 (by decide) (fun q5 => ?_) (fun q5 => ?_)
  · have hv : ¬ (inn v (T 2) ∧ inn w 256) := fun q => bi_z.mp q5 q.1
    refine g_iconst (pc := 19) (v := -1) o dX3_calls_19 (by decide) ?_
    exact g_iret (pc := 20) o f dX3_calls_20 rfl (by unfold aCalls; rw [if_neg hv]) (hp_M (by unfold mCalls; rw [if_neg hv]))
  · have hv1 := bi_nz.mp q5
    refine g_iload_n (pc := 8) o 2 dX3_calls_8 rfl rfl ?_
    refine g_if_lt (pc := 9) o 19 dX3_calls_9 (by decide) (fun q9 => ?_) (fun q9 => ?_)
    · have hv : ¬ (inn v (T 2) ∧ inn w 256) := fun q => inn_lt0 q9 q.2
      refine g_iconst (pc := 19) (v := -1) o dX3_calls_19 (by decide) ?_
      exact g_iret (pc := 20) o f dX3_calls_20 rfl (by unfold aCalls; rw [if_neg hv]) (hp_M (by unfold mCalls; rw [if_neg hv]))
    · refine g_iload_n (pc := 12) o 2 dX3_calls_12 rfl rfl ?_
      refine g_sipush (pc := 13) (v := 255) o dX3_calls_13 (by decide) ?_
      refine g_icmp_le (pc := 16) o 21 dX3_calls_16 (by decide) (fun q16 => ?_) (fun q16 => ?_)
      · have hv : inn v (T 2) ∧ inn w 256 := ⟨hv1, inn_le (N := 255) (by decide) rfl q9 q16⟩
        obtain ⟨j, hj, rfl⟩ := inn_of hv1 (by omega)
        refine g_aload_n (pc := 21) o 0 dX3_calls_21 rfl rfl ?_
        refine g_V0v (pc := 22) o lkRX3_152 cmX3_remember (cX3remember xb hlat hl10 hpk hp10) (by first | assumption | rfl) (by first | assumption | omega) rfl rfl ⟨Nat.le_refl _, Nat.le_refl _⟩ dX3_calls_22 ?_
        refine g_aload_n (pc := 25) o 0 dX3_calls_25 rfl rfl ?_
        refine g_getR (pc := 26) o flRX3_29 (by first | assumption | rfl) (by first | assumption | omega) (by assumption) dX3_calls_26 ?_
        refine g_getR (pc := 29) o flRX3_112 (by first | assumption | rfl) (by first | assumption | omega) (by assumption) dX3_calls_29 ?_
        refine g_iload_n (pc := 32) o 1 dX3_calls_32 rfl rfl ?_
        refine g_iald (pc := 33) o (j) (by first | assumption | rfl) (by first | assumption | omega) rfl (by omega) dX3_calls_33 ?_
        refine g_istore_n (pc := 34) o 3 dX3_calls_34 rfl rfl ?_
        refine g_aload_n (pc := 35) o 0 dX3_calls_35 rfl rfl ?_
        refine g_getR (pc := 36) o flRX3_29 (by first | assumption | rfl) (by first | assumption | omega) (by assumption) dX3_calls_36 ?_
        refine g_getR (pc := 39) o flRX3_112 (by first | assumption | rfl) (by first | assumption | omega) (by assumption) dX3_calls_39 ?_
        refine g_iload_n (pc := 42) o 1 dX3_calls_42 rfl rfl ?_
        refine g_iload_n (pc := 43) o 2 dX3_calls_43 rfl rfl ?_
        refine g_iast (pc := 44) o (j) (by first | assumption | rfl) (by first | assumption | omega) rfl (by omega) dX3_calls_44 ?_
        refine g_iload_n (pc := 45) o 3 dX3_calls_45 rfl rfl ?_
        exact g_iret (pc := 46) o f dX3_calls_46 rfl (by rw [rmbM_ne _ _ _ (by decide) (by decide), (sc j hj).2.1]; unfold aCalls; rw [if_pos hv, nI_clamp (by omega)]) (hp_M (by unfold mCalls; rw [if_pos hv, nI_clamp (by omega)]))
      · have hv : ¬ (inn v (T 2) ∧ inn w 256) := fun q => inn_gt (N := 255) (by decide) rfl (Int32.not_le.mp q16) q.2
        refine g_iconst (pc := 19) (v := -1) o dX3_calls_19 (by decide) ?_
        exact g_iret (pc := 20) o f dX3_calls_20 rfl (by unfold aCalls; rw [if_neg hv]) (hp_M (by unfold mCalls; rw [if_neg hv]))

def mHour (T S : Nat → Nat) (M : HM) (lat pk : Nat) : HM := if S 0 < 99 then passM (rmbM M lat pk) 28 (wA T S (-1)) (T 2) (T 1) else M
def aHour (T S : Nat → Nat) : Int32 := if S 0 < 99 then nI (wA T S (-1)) else -2
set_option maxHeartbeats 2000000 in
set_option maxRecDepth 20000 in
theorem cX3hour {t b : Nat} {T S : Nat → Nat} (xb : XB M Rf n t T S b) {lat pk : Nat} (hlat : M 0 6 = nI lat) (hl10 : lat < 10) (hpk : M 0 7 = nI pk) (hp10 : pk ≤ 10) : Ret Λ (d + 5) mX3_hour [.ref 0] (n, M, Rf, Lg) (some (.int (aHour T S))) (n, mHour T S M lat pk, Rf, Lg) 0 0 := by
  refine Ret.of rfl rfl rfl (fun κ o f hin => ?_)
  obtain ⟨hx, hc, hn, ht, hm, hr, hs, os, hb9⟩ := id xb
  have rc := hx.city hc
  obtain ⟨x0, x1, x3, x4, x5, x8, x9, x10, x11, x13, x14, x15, xN, xC4, xC16, xP, xI, xT, xL, xNm⟩ := id hx
  obtain ⟨r3, r4, r6, r7, r8, r9, r11, r12, r13, r14, r15⟩ := id rc
  obtain ⟨z0, z1, z2, z3, z4, z5, z6, z7, z8, z9, z10, z11⟩ := city_shp hc
  obtain ⟨⟨t0, t0b⟩, t1, t2, t3, tD, tC, tN⟩ := id ht
  obtain ⟨m0, m1, m5, m10, mb, mj, mc, mn, ml⟩ := id hm
  have ra := xN 28 in28
  have rt := xN 32 in32
  obtain ⟨u3, u4, u5⟩ := id ra
  obtain ⟨v3, v4, v5⟩ := id rt
  obtain ⟨s0, s1, s2, sc⟩ := id hs
  obtain ⟨os0, os1, os2, osc⟩ := id os
  refine g_aload_n (pc := 0) o 0 dX3_hour_0 rfl rfl ?_
  refine g_getR (pc := 1) o flRX3_29 (by first | assumption | rfl) (by first | assumption | omega) (by assumption) dX3_hour_1 ?_
  refine g_getI (pc := 4) o flRX3_130 (by first | assumption | rfl) (by first | assumption | omega) dX3_hour_4 ?_
  refine g_bipush (pc := 7) (v := 99) o dX3_hour_7 (by decide) ?_
  refine g_icmp_lt (pc := 9) o 15 dX3_hour_9 (by decide) (fun q9 => ?_) (fun q9 => ?_)
  · have h99 : S 0 < 99 := (lt_N (b := 99) (by omega) (by decide) s0 rfl).mp q9
    have xb2 : XB (rmbM M lat pk) Rf n t T S b := xb.kept (fun z h1 h2 => rmbM_ne _ _ _ (by omega) (by omega))
    refine g_aload_n (pc := 15) o 0 dX3_hour_15 rfl rfl ?_
    refine g_V0v (pc := 16) o lkRX3_152 cmX3_remember (cX3remember xb hlat hl10 hpk hp10) (by first | assumption | rfl) (by first | assumption | omega) rfl rfl ⟨Nat.le_refl _, Nat.le_refl _⟩ dX3_hour_16 ?_
    refine g_aload_n (pc := 19) o 0 dX3_hour_19 rfl rfl ?_
    refine g_aload_n (pc := 20) o 0 dX3_hour_20 rfl rfl ?_
    refine g_getR (pc := 21) o flRX3_29 (by first | assumption | rfl) (by first | assumption | omega) (by assumption) dX3_hour_21 ?_
    refine g_iconst (pc := 24) (v := -1) o dX3_hour_24 (by decide) ?_
    refine g_V2i (pc := 25) o lkRX3_155 cmX3_goBy (cX3goBy xb2 in28 xb2.2.2.2.2.2.2.1 os) (by first | assumption | rfl) (by first | assumption | omega) rfl rfl ⟨Nat.le_refl _, Nat.le_refl _⟩ dX3_hour_25 ?_
    exact g_iret (pc := 28) o f dX3_hour_28 rfl (by unfold aHour; rw [if_pos h99]) (hp_M (by unfold mHour; rw [if_pos h99]))
  · have h99 : ¬ S 0 < 99 := mt (lt_N (b := 99) (by omega) (by decide) s0 rfl).mpr q9
    refine g_bipush (pc := 12) (v := -2) o dX3_hour_12 (by decide) ?_
    exact g_iret (pc := 14) o f dX3_hour_14 rfl (by unfold aHour; rw [if_neg h99]) (hp_M (by unfold mHour; rw [if_neg h99]))

def mKeep (M : HM) (v : Int32) : HM := if inn v 2 then st2 (bcmM M (88 + 4 * v.toNatClampNeg) 28) 38 v.toNatClampNeg 1 else M
def aKeep (S : Nat → Nat) (v : Int32) : Int32 := if inn v 2 then nI (S 0) else -1
set_option maxHeartbeats 2000000 in
set_option maxRecDepth 20000 in
theorem cX3keep {t b : Nat} {T S : Nat → Nat} (xb : XB M Rf n t T S b) {v : Int32} : Ret Λ (d + 3) mX3_keep [.ref 0, .int v] (n, M, Rf, Lg) (some (.int (aKeep S v))) (n, mKeep M v, Rf, Lg) 0 0 := by
  refine Ret.of rfl rfl rfl (fun κ o f hin => ?_)
  obtain ⟨hx, hc, hn, ht, hm, hr, hs, os, hb9⟩ := id xb
  have rc := hx.city hc
  obtain ⟨x0, x1, x3, x4, x5, x8, x9, x10, x11, x13, x14, x15, xN, xC4, xC16, xP, xI, xT, xL, xNm⟩ := id hx
  obtain ⟨r3, r4, r6, r7, r8, r9, r11, r12, r13, r14, r15⟩ := id rc
  obtain ⟨z0, z1, z2, z3, z4, z5, z6, z7, z8, z9, z10, z11⟩ := city_shp hc
  obtain ⟨⟨t0, t0b⟩, t1, t2, t3, tD, tC, tN⟩ := id ht
  obtain ⟨m0, m1, m5, m10, mb, mj, mc, mn, ml⟩ := id hm
  have ra := xN 28 in28
  have rt := xN 32 in32
  obtain ⟨u3, u4, u5⟩ := id ra
  obtain ⟨v3, v4, v5⟩ := id rt
  obtain ⟨s0, s1, s2, sc⟩ := id hs
  obtain ⟨os0, os1, os2, osc⟩ := id os
  refine g_iload_n (pc := 0) o 1 dX3_keep_0 rfl rfl ?_
  refine g_if_lt (pc := 1) o 9 dX3_keep_1 (by decide) (fun q1 => ?_) (fun q1 => ?_)
  · have hv : ¬ inn v 2 := inn_lt0 q1
    refine g_iconst (pc := 9) (v := -1) o dX3_keep_9 (by decide) ?_
    exact g_iret (pc := 10) o f dX3_keep_10 rfl (by unfold aKeep; rw [if_neg hv]) (hp_M (by unfold mKeep; rw [if_neg hv]))
  · refine g_iload_n (pc := 4) o 1 dX3_keep_4 rfl rfl ?_
    refine g_iconst (pc := 5) (v := 2) o dX3_keep_5 (by decide) ?_
    refine g_icmp_lt (pc := 6) o 11 dX3_keep_6 (by decide) (fun q6 => ?_) (fun q6 => ?_)
    · have hv : inn v 2 := inn_lt (N := 2) (by decide) rfl q1 q6
      obtain ⟨j, hj, rfl⟩ := inn_of hv (by decide)
      obtain ⟨y0, y1, y2, y3, ylt⟩ := now_shp (img_in j hj)
      refine g_aload_n (pc := 11) o 0 dX3_keep_11 rfl rfl ?_
      refine g_getR (pc := 12) o flRX3_40 (by first | assumption | rfl) (by first | assumption | omega) (by assumption) dX3_keep_12 ?_
      refine g_iload_n (pc := 15) o 1 dX3_keep_15 rfl rfl ?_
      refine g_aald (pc := 16) o (j) (by first | assumption | rfl) (by first | exact Or.inl rfl | exact Or.inr rfl) (by first | assumption | omega) rfl (by omega) (xI j hj) dX3_keep_16 ?_
      refine g_aload_n (pc := 17) o 0 dX3_keep_17 rfl rfl ?_
      refine g_getR (pc := 18) o flRX3_29 (by first | assumption | rfl) (by first | assumption | omega) (by assumption) dX3_keep_18 ?_
      refine g_V1v (pc := 21) o lkRX3_162 cmX1_become (cX1become (img_in j hj) (xN _ (img_in j hj)) in28 ra hn) (by first | assumption | rfl) (by first | assumption | omega) rfl rfl ⟨Nat.le_refl _, Nat.le_refl _⟩ dX3_keep_21 ?_
      refine g_aload_n (pc := 24) o 0 dX3_keep_24 rfl rfl ?_
      refine g_getR (pc := 25) o flRX3_43 (by first | assumption | rfl) (by first | assumption | omega) (by assumption) dX3_keep_25 ?_
      refine g_iload_n (pc := 28) o 1 dX3_keep_28 rfl rfl ?_
      refine g_iconst (pc := 29) (v := 1) o dX3_keep_29 (by decide) ?_
      refine g_zast (pc := 30) o (j) (by first | assumption | rfl) (by first | assumption | omega) rfl (by omega) rfl dX3_keep_30 ?_
      refine g_aload_n (pc := 31) o 0 dX3_keep_31 rfl rfl ?_
      refine g_getR (pc := 32) o flRX3_29 (by first | assumption | rfl) (by first | assumption | omega) (by assumption) dX3_keep_32 ?_
      refine g_getI (pc := 35) o flRX3_130 (by first | assumption | rfl) (by first | assumption | omega) dX3_keep_35 ?_
      exact g_iret (pc := 38) o f dX3_keep_38 rfl (by rw [st2_ne2 _ _ (by omega), bcmM_ne _ _ _ (by omega), s0]; unfold aKeep; rw [if_pos hv]) (hp_M (by unfold mKeep; rw [if_pos hv, nI_clamp (by omega)]))
    · have hv : ¬ inn v 2 := inn_ge (N := 2) (by decide) rfl (Int32.not_lt.mp q6)
      refine g_iconst (pc := 9) (v := -1) o dX3_keep_9 (by decide) ?_
      exact g_iret (pc := 10) o f dX3_keep_10 rfl (by unfold aKeep; rw [if_neg hv]) (hp_M (by unfold mKeep; rw [if_neg hv]))

def mBack (M : HM) (ik : Nat → Bool) (v : Int32) : HM := if inn v 2 ∧ ik v.toNatClampNeg = true then st2 (bcmM M 28 (88 + 4 * v.toNatClampNeg)) 0 7 0 else M
def aBack (I : Nat → Nat → Nat) (ik : Nat → Bool) (v : Int32) : Int32 := if inn v 2 then (if ik v.toNatClampNeg = true then nI (I v.toNatClampNeg 0) else -2) else -1
set_option maxHeartbeats 2000000 in
set_option maxRecDepth 20000 in
theorem cX3back {t b : Nat} {T S : Nat → Nat} (xb : XB M Rf n t T S b) {I : Nat → Nat → Nat} {ik : Nat → Bool} (hik : ∀ i, i < 2 → M 38 i = nI (bn (ik i))) (hi : ∀ i, i < 2 → ik i = true → nwS M (88 + 4 * i) (I i) (T 2)) {v : Int32} : Ret Λ (d + 3) mX3_back [.ref 0, .int v] (n, M, Rf, Lg) (some (.int (aBack I ik v))) (n, mBack M ik v, Rf, Lg) 0 0 := by
  refine Ret.of rfl rfl rfl (fun κ o f hin => ?_)
  obtain ⟨hx, hc, hn, ht, hm, hr, hs, os, hb9⟩ := id xb
  have rc := hx.city hc
  obtain ⟨x0, x1, x3, x4, x5, x8, x9, x10, x11, x13, x14, x15, xN, xC4, xC16, xP, xI, xT, xL, xNm⟩ := id hx
  obtain ⟨r3, r4, r6, r7, r8, r9, r11, r12, r13, r14, r15⟩ := id rc
  obtain ⟨z0, z1, z2, z3, z4, z5, z6, z7, z8, z9, z10, z11⟩ := city_shp hc
  obtain ⟨⟨t0, t0b⟩, t1, t2, t3, tD, tC, tN⟩ := id ht
  obtain ⟨m0, m1, m5, m10, mb, mj, mc, mn, ml⟩ := id hm
  have ra := xN 28 in28
  have rt := xN 32 in32
  obtain ⟨u3, u4, u5⟩ := id ra
  obtain ⟨v3, v4, v5⟩ := id rt
  obtain ⟨s0, s1, s2, sc⟩ := id hs
  obtain ⟨os0, os1, os2, osc⟩ := id os
  refine g_iload_n (pc := 0) o 1 dX3_back_0 rfl rfl ?_
  refine g_if_lt (pc := 1) o 9 dX3_back_1 (by decide) (fun q1 => ?_) (fun q1 => ?_)
  · have hv : ¬ inn v 2 := inn_lt0 q1
    refine g_iconst (pc := 9) (v := -1) o dX3_back_9 (by decide) ?_
    exact g_iret (pc := 10) o f dX3_back_10 rfl (by unfold aBack; rw [if_neg hv]) (hp_M (by unfold mBack; rw [if_neg (fun q => hv q.1)]))
  · refine g_iload_n (pc := 4) o 1 dX3_back_4 rfl rfl ?_
    refine g_iconst (pc := 5) (v := 2) o dX3_back_5 (by decide) ?_
    refine g_icmp_lt (pc := 6) o 11 dX3_back_6 (by decide) (fun q6 => ?_) (fun q6 => ?_)
    · have hv : inn v 2 := inn_lt (N := 2) (by decide) rfl q1 q6
      obtain ⟨j, hj, rfl⟩ := inn_of hv (by decide)
      obtain ⟨y0, y1, y2, y3, ylt⟩ := now_shp (img_in j hj)
      refine g_aload_n (pc := 11) o 0 dX3_back_11 rfl rfl ?_
      refine g_getR (pc := 12) o flRX3_43 (by first | assumption | rfl) (by first | assumption | omega) (by assumption) dX3_back_12 ?_
      refine g_iload_n (pc := 15) o 1 dX3_back_15 rfl rfl ?_
      refine g_zald (pc := 16) o (j) (by first | assumption | rfl) (by first | assumption | omega) rfl (by omega) dX3_back_16 ?_
      rw [hik j hj]
      refine g_if_ne (pc := 17) o 23 dX3_back_17 (by decide) (fun q17 => ?_) (fun q17 => ?_)
      · have hk : ik j = true := by have := mt bn_zero.mpr q17; simpa using this
        refine g_aload_n (pc := 23) o 0 dX3_back_23 rfl rfl ?_
        refine g_getR (pc := 24) o flRX3_29 (by first | assumption | rfl) (by first | assumption | omega) (by assumption) dX3_back_24 ?_
        refine g_aload_n (pc := 27) o 0 dX3_back_27 rfl rfl ?_
        refine g_getR (pc := 28) o flRX3_40 (by first | assumption | rfl) (by first | assumption | omega) (by assumption) dX3_back_28 ?_
        refine g_iload_n (pc := 31) o 1 dX3_back_31 rfl rfl ?_
        refine g_aald (pc := 32) o (j) (by first | assumption | rfl) (by first | exact Or.inl rfl | exact Or.inr rfl) (by first | assumption | omega) rfl (by omega) (xI j hj) dX3_back_32 ?_
        refine g_V1v (pc := 33) o lkRX3_162 cmX1_become (cX1become in28 ra (img_in j hj) (xN _ (img_in j hj)) hn) (by first | assumption | rfl) (by first | assumption | omega) rfl rfl ⟨Nat.le_refl _, Nat.le_refl _⟩ dX3_back_33 ?_
        refine g_aload_n (pc := 36) o 0 dX3_back_36 rfl rfl ?_
        refine g_iconst (pc := 37) (v := 0) o dX3_back_37 (by decide) ?_
        refine g_putI (pc := 38) o flRX3_81 rfl (by first | assumption | rfl) (by first | assumption | omega) rfl rfl dX3_back_38 ?_
        refine g_aload_n (pc := 41) o 0 dX3_back_41 rfl rfl ?_
        refine g_getR (pc := 42) o flRX3_29 (by first | assumption | rfl) (by first | assumption | omega) (by assumption) dX3_back_42 ?_
        refine g_getI (pc := 45) o flRX3_130 (by first | assumption | rfl) (by first | assumption | omega) dX3_back_45 ?_
        exact g_iret (pc := 48) o f dX3_back_48 rfl (by rw [st2_ne2 _ _ (by omega), (bcm_now t2 (hi j hj hk)).1]; unfold aBack; rw [if_pos hv, nI_clamp (by omega), if_pos hk]) (hp_M (by unfold mBack; rw [nI_clamp (by omega), if_pos ⟨hv, hk⟩]))
      · have hk : ¬ ik j = true := by have := bn_zero.mp q17; simp [this]
        refine g_bipush (pc := 20) (v := -2) o dX3_back_20 (by decide) ?_
        exact g_iret (pc := 22) o f dX3_back_22 rfl (by unfold aBack; rw [if_pos hv, nI_clamp (by omega), if_neg hk]) (hp_M (by unfold mBack; rw [if_neg (fun q => hk (by have := q.2; rwa [nI_clamp (by omega)] at this))]))
    · have hv : ¬ inn v 2 := inn_ge (N := 2) (by decide) rfl (Int32.not_lt.mp q6)
      refine g_iconst (pc := 9) (v := -1) o dX3_back_9 (by decide) ?_
      exact g_iret (pc := 10) o f dX3_back_10 rfl (by unfold aBack; rw [if_neg hv]) (hp_M (by unfold mBack; rw [if_neg (fun q => hv q.1)]))

/-- hours to come, but one never lies down -/
def runS (T : Nat → Nat) (ab : Int32) (S : Nat → Nat) : Nat → Nat → Nat
  | 0 => S
  | k + 1 => stepS T (runS T ab S k) (wA T (runS T ab S k) ab)
theorem run_ok {T S : Nat → Nat} {b : Nat} (ab : Int32) (t2 : T 2 ≤ 6) (h : okS S (T 2) b) (k : Nat) : okS (runS T ab S k) (T 2) (b + k) := by
  induction k with
  | zero => exact h
  | succ k ih => exact step_ok _ t2 ih
def lstW (T : Nat → Nat) (ab : Int32) (S : Nat → Nat) : Nat → Int32
  | 0 => 0
  | k + 1 => nI (wA T (runS T ab S k) ab)
/-- the first of k hours from i on that lapses -/
def frs (T : Nat → Nat) (ab : Int32) (S : Nat → Nat) : Nat → Nat → Int32
  | _, 0 => -9
  | i, k + 1 => if pop (wA T (runS T ab S i) ab) < T 1 then nI i else frs T ab S (i + 1) k
/-- nothing but the trial has changed -/
def frT (M M' : HM) : Prop := ∀ z, z < 32 ∨ 36 ≤ z → M' z = M z
def aAsleepIn (T S : Nat → Nat) (v : Int32) : Int32 := if inn v 81 then nI (wA T (runS T (-1) S v.toNatClampNeg) (-1)) else -1
set_option maxHeartbeats 2000000 in
set_option maxRecDepth 20000 in
theorem cX3asleepIn {t b : Nat} {T S : Nat → Nat} (xb : XB M Rf n t T S b) {v : Int32} : RetE Λ (d + 5) mX3_asleepIn [.ref 0, .int v] (n, M, Rf, Lg) (pI n Rf Lg (fun r M' => r = aAsleepIn T S v ∧ frT M M')) 0 0 := by
  refine RetE.of rfl rfl rfl (fun κ o f hin => ?_)
  obtain ⟨hx, hc, hn, ht, hm, hr, hs, os, hb9⟩ := id xb
  have rc := hx.city hc
  obtain ⟨x0, x1, x3, x4, x5, x8, x9, x10, x11, x13, x14, x15, xN, xC4, xC16, xP, xI, xT, xL, xNm⟩ := id hx
  obtain ⟨r3, r4, r6, r7, r8, r9, r11, r12, r13, r14, r15⟩ := id rc
  obtain ⟨z0, z1, z2, z3, z4, z5, z6, z7, z8, z9, z10, z11⟩ := city_shp hc
  obtain ⟨⟨t0, t0b⟩, t1, t2, t3, tD, tC, tN⟩ := id ht
  obtain ⟨m0, m1, m5, m10, mb, mj, mc, mn, ml⟩ := id hm
  have ra := xN 28 in28
  have rt := xN 32 in32
  obtain ⟨u3, u4, u5⟩ := id ra
  obtain ⟨v3, v4, v5⟩ := id rt
  obtain ⟨s0, s1, s2, sc⟩ := id hs
  obtain ⟨os0, os1, os2, osc⟩ := id os
  refine g_iload_n (pc := 0) o 1 dX3_asleepIn_0 rfl rfl ?_
  refine g_if_lt (pc := 1) o 10 dX3_asleepIn_1 (by decide) (fun q1 => ?_) (fun q1 => ?_)
  · have hv : ¬ inn v 81 := inn_lt0 q1
    refine g_iconst (pc := 10) (v := -1) o dX3_asleepIn_10 (by decide) ?_
    exact e_iret (pc := 11) o f dX3_asleepIn_11 rfl (pI.of ⟨by unfold aAsleepIn; rw [if_neg hv], fun _ _ => rfl⟩)
  · refine g_iload_n (pc := 4) o 1 dX3_asleepIn_4 rfl rfl ?_
    refine g_bipush (pc := 5) (v := 80) o dX3_asleepIn_5 (by decide) ?_
    refine g_icmp_le (pc := 7) o 12 dX3_asleepIn_7 (by decide) (fun q7 => ?_) (fun q7 => ?_)
    · have hv : inn v 81 := inn_le (N := 80) (by decide) rfl q1 q7
      obtain ⟨nn, hnn, rfl⟩ := inn_of hv (by decide)
      have loop : ∀ (k c : Nat) (M1 : HM), nwS M1 32 (runS T (-1) S c) (T 2) → frT M M1 → c ≤ nn + 1 → nn + 1 < c + k → G (Λ, κ) 27 [some (.ref 0), some (.int (nI nn)), some (.int (lstW T (-1) S c)), some (.int (nI c))] [] (n, M1, Rf, Lg) 0 0 := by
        intro k
        induction k with
        | zero => intro c M1 hs1 hf h1 h2; exact absurd h2 (by omega)
        | succ k ih =>
          intro c M1 hs1 hf h1 h2
          refine g_iload_n (pc := 27) o 3 dX3_asleepIn_27 rfl rfl ?_
          refine g_iload_n (pc := 28) o 1 dX3_asleepIn_28 rfl rfl ?_
          refine g_icmp_gt (pc := 29) o 48 dX3_asleepIn_29 (by decide) (fun q29 => ?_) (fun q29 => ?_)
          · have ec : c = nn + 1 := by have := (lt_N (by omega) (by omega) rfl rfl).mp q29; omega
            refine g_iload_n (pc := 48) o 2 dX3_asleepIn_48 rfl rfl ?_
            exact e_iret (pc := 49) o f dX3_asleepIn_49 rfl (pI.of ⟨by rw [ec]; unfold aAsleepIn; rw [if_pos hv, nI_clamp (by omega)]; rfl, hf⟩)
          · have hc1 : c ≤ nn := by have := mt (lt_N (by omega) (by omega) rfl rfl).mpr q29; omega
            have xb2 := xb.kept (M' := M1) (fun z h3 h4 => hf z (by omega))
            have ok2 := run_ok (-1) t2 os c
            refine g_aload_n (pc := 32) o 0 dX3_asleepIn_32 rfl rfl ?_
            refine g_aload_n (pc := 33) o 0 dX3_asleepIn_33 rfl rfl ?_
            refine g_getR (pc := 34) o flRX3_33 (by first | assumption | rfl) (by first | assumption | omega) (by assumption) dX3_asleepIn_34 ?_
            refine g_iconst (pc := 37) (v := -1) o dX3_asleepIn_37 (by decide) ?_
            refine g_V2i (pc := 38) o lkRX3_155 cmX3_goBy (cX3goBy xb2 in32 hs1 ok2) (by first | assumption | rfl) (by first | assumption | omega) rfl rfl ⟨Nat.le_refl _, Nat.le_refl _⟩ dX3_asleepIn_38 ?_
            refine g_istore_n (pc := 41) o 2 dX3_asleepIn_41 rfl rfl ?_
            refine g_incN (pc := 42) o (c) dX3_asleepIn_42 rfl rfl ?_
            refine g_goto (pc := 45) o 27 dX3_asleepIn_45 (by decide) ?_
            exact ih (c + 1) _ (pass_now t2 (by omega) hs1 ok2) (fun z hz => by rw [passM_ne _ _ _ _ _ (by omega)]; exact hf z hz) (by omega) (by omega)
      refine g_aload_n (pc := 12) o 0 dX3_asleepIn_12 rfl rfl ?_
      refine g_getR (pc := 13) o flRX3_33 (by first | assumption | rfl) (by first | assumption | omega) (by assumption) dX3_asleepIn_13 ?_
      refine g_aload_n (pc := 16) o 0 dX3_asleepIn_16 rfl rfl ?_
      refine g_getR (pc := 17) o flRX3_29 (by first | assumption | rfl) (by first | assumption | omega) (by assumption) dX3_asleepIn_17 ?_
      refine g_V1v (pc := 20) o lkRX3_162 cmX1_become (cX1become in32 rt in28 ra hn) (by first | assumption | rfl) (by first | assumption | omega) rfl rfl ⟨Nat.le_refl _, Nat.le_refl _⟩ dX3_asleepIn_20 ?_
      refine g_iconst (pc := 23) (v := 0) o dX3_asleepIn_23 (by decide) ?_
      refine g_istore_n (pc := 24) o 2 dX3_asleepIn_24 rfl rfl ?_
      refine g_iconst (pc := 25) (v := 0) o dX3_asleepIn_25 (by decide) ?_
      refine g_istore_n (pc := 26) o 3 dX3_asleepIn_26 rfl rfl ?_
      exact loop (nn + 2) 0 _ (bcm_now t2 hs) (fun z hz => bcmM_ne _ _ _ (by omega)) (by omega) (by omega)
    · have hv : ¬ inn v 81 := inn_gt (N := 80) (by decide) rfl (Int32.not_le.mp q7)
      refine g_iconst (pc := 10) (v := -1) o dX3_asleepIn_10 (by decide) ?_
      exact e_iret (pc := 11) o f dX3_asleepIn_11 rfl (pI.of ⟨by unfold aAsleepIn; rw [if_neg hv], fun _ _ => rfl⟩)

set_option maxHeartbeats 2000000 in
set_option maxRecDepth 20000 in
theorem cX3firstLapse {t b : Nat} {T S : Nat → Nat} (xb : XB M Rf n t T S b) {nn : Nat} (hnn : nn < 1000) {ab : Int32} : RetE Λ (d + 5) mX3_firstLapse [.ref 0, .int (nI nn), .int ab] (n, M, Rf, Lg) (pI n Rf Lg (fun r M' => r = frs T ab S 0 nn ∧ frT M M')) 0 0 := by
  refine RetE.of rfl rfl rfl (fun κ o f hin => ?_)
  obtain ⟨hx, hc, hn, ht, hm, hr, hs, os, hb9⟩ := id xb
  have rc := hx.city hc
  obtain ⟨x0, x1, x3, x4, x5, x8, x9, x10, x11, x13, x14, x15, xN, xC4, xC16, xP, xI, xT, xL, xNm⟩ := id hx
  obtain ⟨r3, r4, r6, r7, r8, r9, r11, r12, r13, r14, r15⟩ := id rc
  obtain ⟨z0, z1, z2, z3, z4, z5, z6, z7, z8, z9, z10, z11⟩ := city_shp hc
  obtain ⟨⟨t0, t0b⟩, t1, t2, t3, tD, tC, tN⟩ := id ht
  obtain ⟨m0, m1, m5, m10, mb, mj, mc, mn, ml⟩ := id hm
  have ra := xN 28 in28
  have rt := xN 32 in32
  obtain ⟨u3, u4, u5⟩ := id ra
  obtain ⟨v3, v4, v5⟩ := id rt
  obtain ⟨s0, s1, s2, sc⟩ := id hs
  obtain ⟨os0, os1, os2, osc⟩ := id os
  have loop : ∀ (k j9 c : Nat) (M1 : HM), nwS M1 32 (runS T ab S c) (T 2) → frT M M1 → c + j9 = nn → j9 < k → frs T ab S 0 nn = frs T ab S c j9 → G (Λ, κ) 13 [some (.ref 0), some (.int (nI nn)), some (.int ab), some (.int (nI c))] [] (n, M1, Rf, Lg) 0 0 := by
    intro k
    induction k with
    | zero => intro j9 c M1 hs1 hf h1 h2; exact absurd h2 (by omega)
    | succ k ih =>
      intro j9 c M1 hs1 hf h1 h2 er
      refine g_iload_n (pc := 13) o 3 dX3_firstLapse_13 rfl rfl ?_
      refine g_iload_n (pc := 14) o 1 dX3_firstLapse_14 rfl rfl ?_
      refine g_icmp_ge (pc := 15) o 42 dX3_firstLapse_15 (by decide) (fun q15 => ?_) (fun q15 => ?_)
      · have ec : c = nn := by have := (le_N (by omega) (by omega) rfl rfl).mp q15; omega
        have ek : j9 = 0 := by omega
        refine g_bipush (pc := 42) (v := -9) o dX3_firstLapse_42 (by decide) ?_
        exact e_iret (pc := 44) o f dX3_firstLapse_44 rfl (pI.of ⟨by rw [er, ek]; rfl, hf⟩)
      · have hc1 : c < nn := by have := mt (le_N (by omega) (by omega) rfl rfl).mpr q15; omega
        obtain ⟨j8, rfl⟩ : ∃ j8, j9 = j8 + 1 := ⟨j9 - 1, by omega⟩
        have xb2 := xb.kept (M' := M1) (fun z h3 h4 => hf z (by omega))
        have ok2 := run_ok ab t2 os c
        have w6 : wA T (runS T ab S c) ab < 64 := wA6 t2
        refine g_aload_n (pc := 18) o 0 dX3_firstLapse_18 rfl rfl ?_
        refine g_aload_n (pc := 19) o 0 dX3_firstLapse_19 rfl rfl ?_
        refine g_aload_n (pc := 20) o 0 dX3_firstLapse_20 rfl rfl ?_
        refine g_getR (pc := 21) o flRX3_33 (by first | assumption | rfl) (by first | assumption | omega) (by assumption) dX3_firstLapse_21 ?_
        refine g_iload_n (pc := 24) o 2 dX3_firstLapse_24 rfl rfl ?_
        refine g_V2i (pc := 25) o lkRX3_155 cmX3_goBy (cX3goBy xb2 in32 hs1 ok2) (by first | assumption | rfl) (by first | assumption | omega) rfl rfl ⟨Nat.le_refl _, Nat.le_refl _⟩ dX3_firstLapse_25 ?_
        refine g_V1i (pc := 28) o lkRX3_191 cmX3_lapses (cX3lapses (xb2.kept (M' := passM M1 32 (wA T (runS T ab S c) ab) (T 2) (T 1)) (fun z h3 h4 => passM_ne _ _ _ _ _ (by omega))) (by omega)) (by first | assumption | rfl) (by first | assumption | omega) rfl rfl ⟨Nat.le_refl _, Nat.le_refl _⟩ dX3_firstLapse_28 ?_
        refine g_if_eq (pc := 31) o 36 dX3_firstLapse_31 (by decide) (fun q31 => ?_) (fun q31 => ?_)
        · have hq := bi_z.mp q31
          refine g_incN (pc := 36) o (c) dX3_firstLapse_36 rfl rfl ?_
          refine g_goto (pc := 39) o 13 dX3_firstLapse_39 (by decide) ?_
          exact ih j8 (c + 1) _ (pass_now t2 (by omega) hs1 ok2) (fun z hz => by rw [passM_ne _ _ _ _ _ (by omega)]; exact hf z hz) (by omega) (by omega) (by rw [er]; show (if _ then _ else _) = _; rw [if_neg hq])
        · have hq := bi_nz.mp q31
          refine g_iload_n (pc := 34) o 3 dX3_firstLapse_34 rfl rfl ?_
          exact e_iret (pc := 35) o f dX3_firstLapse_35 rfl (pI.of ⟨by rw [er]; show _ = (if _ then _ else _); rw [if_pos hq], (fun z hz => by rw [passM_ne _ _ _ _ _ (by omega)]; exact hf z hz)⟩)
  refine g_aload_n (pc := 0) o 0 dX3_firstLapse_0 rfl rfl ?_
  refine g_getR (pc := 1) o flRX3_33 (by first | assumption | rfl) (by first | assumption | omega) (by assumption) dX3_firstLapse_1 ?_
  refine g_aload_n (pc := 4) o 0 dX3_firstLapse_4 rfl rfl ?_
  refine g_getR (pc := 5) o flRX3_29 (by first | assumption | rfl) (by first | assumption | omega) (by assumption) dX3_firstLapse_5 ?_
  refine g_V1v (pc := 8) o lkRX3_162 cmX1_become (cX1become in32 rt in28 ra hn) (by first | assumption | rfl) (by first | assumption | omega) rfl rfl ⟨Nat.le_refl _, Nat.le_refl _⟩ dX3_firstLapse_8 ?_
  refine g_iconst (pc := 11) (v := 0) o dX3_firstLapse_11 (by decide) ?_
  refine g_istore_n (pc := 12) o 3 dX3_firstLapse_12 rfl rfl ?_
  exact loop (nn + 1) nn 0 _ (bcm_now t2 hs) (fun z hz => bcmM_ne _ _ _ (by omega)) (by omega) (by omega) rfl

set_option maxHeartbeats 2000000 in
set_option maxRecDepth 20000 in
theorem cX3lapse {t b : Nat} {T S : Nat → Nat} (xb : XB M Rf n t T S b) : RetE Λ (d + 6) mX3_lapse [.ref 0] (n, M, Rf, Lg) (pI n Rf Lg (fun r M' => r = frs T (-1) S 0 81 ∧ frT M M')) 0 0 := by
  refine RetE.of rfl rfl rfl (fun κ o f hin => ?_)
  obtain ⟨hx, hc, hn, ht, hm, hr, hs, os, hb9⟩ := id xb
  have rc := hx.city hc
  obtain ⟨x0, x1, x3, x4, x5, x8, x9, x10, x11, x13, x14, x15, xN, xC4, xC16, xP, xI, xT, xL, xNm⟩ := id hx
  obtain ⟨r3, r4, r6, r7, r8, r9, r11, r12, r13, r14, r15⟩ := id rc
  obtain ⟨z0, z1, z2, z3, z4, z5, z6, z7, z8, z9, z10, z11⟩ := city_shp hc
  obtain ⟨⟨t0, t0b⟩, t1, t2, t3, tD, tC, tN⟩ := id ht
  obtain ⟨m0, m1, m5, m10, mb, mj, mc, mn, ml⟩ := id hm
  have ra := xN 28 in28
  have rt := xN 32 in32
  obtain ⟨u3, u4, u5⟩ := id ra
  obtain ⟨v3, v4, v5⟩ := id rt
  obtain ⟨s0, s1, s2, sc⟩ := id hs
  obtain ⟨os0, os1, os2, osc⟩ := id os
  refine g_aload_n (pc := 0) o 0 dX3_lapse_0 rfl rfl ?_
  refine g_bipush (pc := 1) (v := 81) o dX3_lapse_1 (by decide) ?_
  refine g_iconst (pc := 3) (v := -1) o dX3_lapse_3 (by decide) ?_
  refine e_V2i (pc := 4) o lkRX3_188 cmX3_firstLapse (cX3firstLapse xb (nn := 81) (by decide)) (by first | assumption | rfl) (by first | assumption | omega) rfl rfl ⟨Nat.le_refl _, Nat.le_refl _⟩ dX3_lapse_4 (fun r M1 hp => ?_)
  exact e_iret (pc := 7) o f dX3_lapse_7 rfl (pI.of hp)

def aBears (T S : Nat → Nat) : Int32 := if frs T (-1) S 0 8 = -9 then nI (mk (fun c => decide (frs T (nI c) S 0 8 = -9)) (T 2)) else 0
set_option maxHeartbeats 2000000 in
set_option maxRecDepth 20000 in
theorem cX3bears {t b : Nat} {T S : Nat → Nat} (xb : XB M Rf n t T S b) : RetE Λ (d + 6) mX3_bears [.ref 0] (n, M, Rf, Lg) (pI n Rf Lg (fun r M' => r = aBears T S ∧ frT M M')) 0 0 := by
  refine RetE.of rfl rfl rfl (fun κ o f hin => ?_)
  obtain ⟨hx, hc, hn, ht, hm, hr, hs, os, hb9⟩ := id xb
  have rc := hx.city hc
  obtain ⟨x0, x1, x3, x4, x5, x8, x9, x10, x11, x13, x14, x15, xN, xC4, xC16, xP, xI, xT, xL, xNm⟩ := id hx
  obtain ⟨r3, r4, r6, r7, r8, r9, r11, r12, r13, r14, r15⟩ := id rc
  obtain ⟨z0, z1, z2, z3, z4, z5, z6, z7, z8, z9, z10, z11⟩ := city_shp hc
  obtain ⟨⟨t0, t0b⟩, t1, t2, t3, tD, tC, tN⟩ := id ht
  obtain ⟨m0, m1, m5, m10, mb, mj, mc, mn, ml⟩ := id hm
  have ra := xN 28 in28
  have rt := xN 32 in32
  obtain ⟨u3, u4, u5⟩ := id ra
  obtain ⟨v3, v4, v5⟩ := id rt
  obtain ⟨s0, s1, s2, sc⟩ := id hs
  obtain ⟨os0, os1, os2, osc⟩ := id os
  refine g_aload_n (pc := 0) o 0 dX3_bears_0 rfl rfl ?_
  refine g_bipush (pc := 1) (v := 8) o dX3_bears_1 (by decide) ?_
  refine g_iconst (pc := 3) (v := -1) o dX3_bears_3 (by decide) ?_
  refine e_V2i (pc := 4) o lkRX3_188 cmX3_firstLapse (cX3firstLapse xb (nn := 8) (by decide)) (by first | assumption | rfl) (by first | assumption | omega) rfl rfl ⟨Nat.le_refl _, Nat.le_refl _⟩ dX3_bears_4 (fun r M0 hp => ?_)
  obtain ⟨rfl, hf0⟩ := hp
  refine g_bipush (pc := 7) (v := -9) o dX3_bears_7 (by decide) ?_
  refine g_icmp_eq (pc := 9) o 14 dX3_bears_9 (by decide) (fun q9 => ?_) (fun q9 => ?_)
  · have h9 := q9
    have loop : ∀ (k c : Nat) (M1 : HM), frT M M1 → c ≤ T 2 → T 2 < c + k → G (Λ, κ) 18 [some (.ref 0), some (.int (nI (mk (fun c => decide (frs T (nI c) S 0 8 = -9)) c))), some (.int (nI c))] [] (n, M1, Rf, Lg) 0 0 := by
      intro k
      induction k with
      | zero => intro c M1 hf h1 h2; exact absurd h2 (by omega)
      | succ k ih =>
        intro c M1 hf h1 h2
        have m5x : M1 t 5 = nI (T 2) := by rw [hf t (by omega)]; exact m5
        refine g_iload_n (pc := 18) o 2 dX3_bears_18 rfl rfl ?_
        refine g_aload_n (pc := 19) o 0 dX3_bears_19 rfl rfl ?_
        refine g_getR (pc := 20) o flRX3_19 (by first | assumption | rfl) (by first | assumption | omega) (by assumption) dX3_bears_20 ?_
        refine g_getI (pc := 23) o flRX3_146 (by first | assumption | rfl) (by first | assumption | omega) dX3_bears_23 ?_
        refine g_icmp_ge (pc := 26) o 53 dX3_bears_26 (by decide) (fun q26 => ?_) (fun q26 => ?_)
        · have ec : c = T 2 := by have := (le_N (a := T 2) (b := c) (by omega) (by omega) m5x rfl).mp q26; omega
          refine g_iload_n (pc := 53) o 1 dX3_bears_53 rfl rfl ?_
          exact e_iret (pc := 54) o f dX3_bears_54 rfl (pI.of ⟨by rw [ec]; unfold aBears; rw [if_pos h9], hf⟩)
        · have hc1 : c < T 2 := by have := mt (le_N (a := T 2) (b := c) (by omega) (by omega) m5x rfl).mpr q26; omega
          have xb2 := xb.kept (M' := M1) (fun z h3 h4 => hf z (by omega))
          refine g_aload_n (pc := 29) o 0 dX3_bears_29 rfl rfl ?_
          refine g_bipush (pc := 30) (v := 8) o dX3_bears_30 (by decide) ?_
          refine g_iload_n (pc := 32) o 2 dX3_bears_32 rfl rfl ?_
          refine e_V2i (pc := 33) o lkRX3_188 cmX3_firstLapse (cX3firstLapse xb2 (nn := 8) (by decide)) (by first | assumption | rfl) (by first | assumption | omega) rfl rfl ⟨Nat.le_refl _, Nat.le_refl _⟩ dX3_bears_33 (fun r M2 hp => ?_)
          obtain ⟨rfl, hf2⟩ := hp
          refine g_bipush (pc := 36) (v := -9) o dX3_bears_36 (by decide) ?_
          refine g_icmp_ne (pc := 38) o 47 dX3_bears_38 (by decide) (fun q38 => ?_) (fun q38 => ?_)
          · have e1 : mk (fun c => decide (frs T (nI c) S 0 8 = -9)) (c + 1) = mk (fun c => decide (frs T (nI c) S 0 8 = -9)) c := mk_f (by simpa using q38)
            refine g_incN (pc := 47) o (c) dX3_bears_47 rfl rfl ?_
            refine g_goto (pc := 50) o 18 dX3_bears_50 (by decide) ?_
            first | exact ih (c + 1) _ (fun z hz => by rw [hf2 z hz]; exact hf z hz) (by omega) (by omega) | (rw [← e1]; exact ih (c + 1) _ (fun z hz => by rw [hf2 z hz]; exact hf z hz) (by omega) (by omega))
          · have e1 := mk_t (p := (fun c => decide (frs T (nI c) S 0 8 = -9))) (n := c) (by simpa using q38) (by omega)
            refine g_iload_n (pc := 41) o 1 dX3_bears_41 rfl rfl ?_
            refine g_iconst (pc := 42) (v := 1) o dX3_bears_42 (by decide) ?_
            refine g_iload_n (pc := 43) o 2 dX3_bears_43 rfl rfl ?_
            refine g_ishl (pc := 44) o dX3_bears_44 ?_
            refine g_ior (pc := 45) o dX3_bears_45 ?_
            rw [e1]
            refine g_istore_n (pc := 46) o 1 dX3_bears_46 rfl rfl ?_
            refine g_incN (pc := 47) o (c) dX3_bears_47 rfl rfl ?_
            refine g_goto (pc := 50) o 18 dX3_bears_50 (by decide) ?_
            first | exact ih (c + 1) _ (fun z hz => by rw [hf2 z hz]; exact hf z hz) (by omega) (by omega) | (rw [← e1]; exact ih (c + 1) _ (fun z hz => by rw [hf2 z hz]; exact hf z hz) (by omega) (by omega))
    refine g_iconst (pc := 14) (v := 0) o dX3_bears_14 (by decide) ?_
    refine g_istore_n (pc := 15) o 1 dX3_bears_15 rfl rfl ?_
    refine g_iconst (pc := 16) (v := 0) o dX3_bears_16 (by decide) ?_
    refine g_istore_n (pc := 17) o 2 dX3_bears_17 rfl rfl ?_
    exact loop (T 2 + 1) 0 _ hf0 (by omega) (by omega)
  · refine g_iconst (pc := 12) (v := 0) o dX3_bears_12 (by decide) ?_
    exact e_iret (pc := 13) o f dX3_bears_13 rfl (pI.of ⟨by unfold aBears; rw [if_neg q9], hf0⟩)

end M7
end
section
section M8
variable {Λ : PL} {d n : Nat} {M : HM} {Rf : HR} {Lg : HL}

/-- the loudest drum below k that the quota bears -/
def drmF (T : Nat → Nat) (w d : Nat) : Nat → Int32
  | 0 => -9
  | k + 1 => if pop (dif w (wkB T d k)) < T 1 then drmF T w d k else nI k
def lm (k : Nat) : Int32 := nI k - 1
theorem lm_s (k : Nat) : lm (k + 1) = nI k := nI_pred k
theorem lm_dec (k : Nat) : nI k + Int32.ofInt (-1) = lm k := by unfold lm; rw [Int32.sub_eq_add_neg]; rfl
theorem lm_0 : lm 0 < 0 := by decide
theorem lm_int (k : Nat) (h : k < 1000) : (lm k).toInt = (k : Int) - 1 := by
  cases k with
  | zero => decide
  | succ k => rw [lm_s, nI_toInt (by omega)]; omega
theorem dif6 {a b : Nat} (h : a < 64) : dif a b < 64 := dif_lt (k := 6) h
def drS (T S : Nat → Nat) (v : Int32) : Int32 := tbv v (T 0) (fun j => drmF T (wA T S (-1)) j 10) (-1)
set_option maxHeartbeats 2000000 in
set_option maxRecDepth 20000 in
theorem cX3drum {t b : Nat} {T S : Nat → Nat} (xb : XB M Rf n t T S b) {v : Int32} : Ret Λ (d + 5) mX3_drum [.ref 0, .int v] (n, M, Rf, Lg) (some (.int (drS T S v))) (n, M, Rf, Lg) 0 0 := by
  refine Ret.of rfl rfl rfl (fun κ o f hin => ?_)
  obtain ⟨hx, hc, hn, ht, hm, hr, hs, os, hb9⟩ := id xb
  have rc := hx.city hc
  obtain ⟨x0, x1, x3, x4, x5, x8, x9, x10, x11, x13, x14, x15, xN, xC4, xC16, xP, xI, xT, xL, xNm⟩ := id hx
  obtain ⟨r3, r4, r6, r7, r8, r9, r11, r12, r13, r14, r15⟩ := id rc
  obtain ⟨z0, z1, z2, z3, z4, z5, z6, z7, z8, z9, z10, z11⟩ := city_shp hc
  obtain ⟨⟨t0, t0b⟩, t1, t2, t3, tD, tC, tN⟩ := id ht
  obtain ⟨m0, m1, m5, m10, mb, mj, mc, mn, ml⟩ := id hm
  have ra := xN 28 in28
  have rt := xN 32 in32
  obtain ⟨u3, u4, u5⟩ := id ra
  obtain ⟨v3, v4, v5⟩ := id rt
  obtain ⟨s0, s1, s2, sc⟩ := id hs
  obtain ⟨os0, os1, os2, osc⟩ := id os
  refine g_aload_n (pc := 0) o 0 dX3_drum_0 rfl rfl ?_
  refine g_iload_n (pc := 1) o 1 dX3_drum_1 rfl rfl ?_
  refine g_V1i (pc := 2) o lkRX3_87 cmX3_isDistrict (cX3isDistrict xb) (by first | assumption | rfl) (by first | assumption | omega) rfl rfl ⟨Nat.le_refl _, Nat.le_refl _⟩ dX3_drum_2 ?_
  refine g_if_ne (pc := 5) o 10 dX3_drum_5 (by decide) (fun q5 => ?_) (fun q5 => ?_)
  · obtain ⟨j, hj, rfl⟩ := inn_of (bi_nz.mp q5) (by omega)
    rw [show drS T S (nI j) = drmF T (wA T S (-1)) j 10 from tbv_in hj (by omega)] at f
    have loop : ∀ k : Nat, k ≤ 10 → drmF T (wA T S (-1)) j 10 = drmF T (wA T S (-1)) j k → G (Λ, κ) 26 [some (.ref 0), some (.int (nI j)), some (.int (nI (wA T S (-1)))), some (.int (lm k))] [] (n, M, Rf, Lg) 0 0 := by
      intro k
      induction k with
      | zero =>
        intro h1 er
        refine g_iload_n (pc := 26) o 3 dX3_drum_26 rfl rfl ?_
        refine g_if_lt (pc := 27) o 58 dX3_drum_27 (by decide) (fun q27 => ?_) (fun q27 => ?_)
        · refine g_bipush (pc := 58) (v := -9) o dX3_drum_58 (by decide) ?_
          exact g_iret (pc := 60) o f dX3_drum_60 rfl (by rw [er]; rfl) rfl
        · exact absurd lm_0 q27
      | succ k ih =>
        intro h1 er
        rw [show lm (k + 1) = nI k from lm_s k]
        refine g_iload_n (pc := 26) o 3 dX3_drum_26 rfl rfl ?_
        refine g_if_lt (pc := 27) o 58 dX3_drum_27 (by decide) (fun q27 => ?_) (fun q27 => ?_)
        · exact absurd q27 (nI_pos (by omega))
        · refine g_aload_n (pc := 30) o 0 dX3_drum_30 rfl rfl ?_
          refine g_iload_n (pc := 31) o 2 dX3_drum_31 rfl rfl ?_
          refine g_aload_n (pc := 32) o 0 dX3_drum_32 rfl rfl ?_
          refine g_getR (pc := 33) o flRX3_19 (by first | assumption | rfl) (by first | assumption | omega) (by assumption) dX3_drum_33 ?_
          refine g_iload_n (pc := 36) o 1 dX3_drum_36 rfl rfl ?_
          refine g_iload_n (pc := 37) o 3 dX3_drum_37 rfl rfl ?_
          refine g_V2i (pc := 38) o lkRX3_237 cmX0_wokenBy (cX0wokenBy hc hn rc ht hm (dd := j) (vv := k) (by omega) (by omega)) (by first | assumption | rfl) (by first | assumption | omega) rfl rfl ⟨Nat.le_refl _, Nat.le_refl _⟩ dX3_drum_38 ?_
          refine g_iconst (pc := 41) (v := -1) o dX3_drum_41 (by decide) ?_
          refine g_ixor (pc := 42) o dX3_drum_42 ?_
          refine g_iand (pc := 43) o dX3_drum_43 ?_
          rw [n_dif]
          refine g_V1i (pc := 44) o lkRX3_191 cmX3_lapses (cX3lapses xb (Nat.lt_trans (dif6 (wA6 t2)) (by decide))) (by first | assumption | rfl) (by first | assumption | omega) rfl rfl ⟨Nat.le_refl _, Nat.le_refl _⟩ dX3_drum_44 ?_
          refine g_if_ne (pc := 47) o 52 dX3_drum_47 (by decide) (fun q47 => ?_) (fun q47 => ?_)
          · have hq := bi_nz.mp q47
            refine g_iinc (pc := 52) o dX3_drum_52 rfl ?_
            rw [lm_dec]
            refine g_goto (pc := 55) o 26 dX3_drum_55 (by decide) ?_
            exact ih (by omega) (by rw [er]; show (if _ then _ else _) = _; rw [if_pos hq])
          · have hq := bi_z.mp q47
            refine g_iload_n (pc := 50) o 3 dX3_drum_50 rfl rfl ?_
            exact g_iret (pc := 51) o f dX3_drum_51 rfl (by rw [er]; show _ = (if _ then _ else _); rw [if_neg hq]) rfl
    refine g_aload_n (pc := 10) o 0 dX3_drum_10 rfl rfl ?_
    refine g_getR (pc := 11) o flRX3_19 (by first | assumption | rfl) (by first | assumption | omega) (by assumption) dX3_drum_11 ?_
    refine g_aload_n (pc := 14) o 0 dX3_drum_14 rfl rfl ?_
    refine g_getR (pc := 15) o flRX3_29 (by first | assumption | rfl) (by first | assumption | omega) (by assumption) dX3_drum_15 ?_
    refine g_iconst (pc := 18) (v := -1) o dX3_drum_18 (by decide) ?_
    refine g_V2i (pc := 19) o lkRX3_172 cmX0_asleep (cX0asleep hc hn rc ht hm in28 ra hs os hr) (by first | assumption | rfl) (by first | assumption | omega) rfl rfl ⟨Nat.le_refl _, Nat.le_refl _⟩ dX3_drum_19 ?_
    refine g_istore_n (pc := 22) o 2 dX3_drum_22 rfl rfl ?_
    refine g_bipush (pc := 23) (v := 9) o dX3_drum_23 (by decide) ?_
    refine g_istore_n (pc := 25) o 3 dX3_drum_25 rfl rfl ?_
    exact loop 10 (by omega) rfl
  · refine g_iconst (pc := 8) (v := -1) o dX3_drum_8 (by decide) ?_
    exact g_iret (pc := 9) o f dX3_drum_9 rfl (by unfold drS; rw [tbv_out (bi_z.mp q5)]) rfl

/-- one more than the last hour that is counted -/
def lstN (ch : Nat → Nat) : Nat → Nat
  | 0 => 0
  | k + 1 => max (lstN ch k) (ch k + 1)
theorem lstN_le {ch : Nat → Nat} : ∀ k, (∀ i, i < k → ch i ≤ 20) → lstN ch k ≤ 21 := by
  intro k
  induction k with
  | zero => intro _; exact Nat.zero_le _
  | succ k ih =>
    intro h
    have h1 := ih (fun i hi => h i (by omega))
    have h2 := h k (by omega)
    show max (lstN ch k) (ch k + 1) ≤ 21
    omega
theorem lm_max {a c : Nat} (ha : a < 1000) (hc : c < 1000) : (if lm a < nI c then nI c else lm a) = lm (max a (c + 1)) := by
  have e : (lm a < nI c) ↔ a < c + 1 := by
    rw [Int32.lt_iff_toInt_lt, lm_int a ha, nI_toInt (by omega)]; omega
  by_cases h : a < c + 1
  · rw [if_pos (e.mpr h), Nat.max_eq_right (by omega), lm_s]
  · rw [if_neg (fun q => h (e.mp q)), Nat.max_eq_left (by omega)]
/-- the first k counts allow that so many sleep in the hour i -/
def asC (ch cm : Nat → Nat) (i m : Nat) : Nat → Bool
  | 0 => true
  | k + 1 => asC ch cm i m k && !(ch k == i && !(cm k == m))
set_option maxHeartbeats 2000000 in
set_option maxRecDepth 20000 in
theorem cX3lastCounted  (hn : 96 ≤ n) (x10 : Rf 0 10 = some 39) (x11 : Rf 0 11 = some 40) {cn : Nat} {ch cm : Nat → Nat} (hcn : M 0 12 = nI cn) (hc6 : cn ≤ 6) (hch : ∀ i, i < cn → M 39 i = nI (ch i) ∧ ch i ≤ 20 ∧ M 40 i = nI (cm i) ∧ cm i ≤ 6) : Ret Λ (d + 1) mX3_lastCounted [.ref 0] (n, M, Rf, Lg) (some (.int (lm (lstN ch cn)))) (n, M, Rf, Lg) 0 0 := by
  refine Ret.of rfl rfl rfl (fun κ o f hin => ?_)
  have loop : ∀ k c : Nat, c ≤ cn → cn < c + k → G (Λ, κ) 4 [some (.ref 0), some (.int (lm (lstN ch c))), some (.int (nI c))] [] (n, M, Rf, Lg) 0 0 := by
    intro k
    induction k with
    | zero => intro c h1 h2; exact absurd h2 (by omega)
    | succ k ih =>
      intro c h1 h2
      refine g_iload_n (pc := 4) o 2 dX3_lastCounted_4 rfl rfl ?_
      refine g_aload_n (pc := 5) o 0 dX3_lastCounted_5 rfl rfl ?_
      refine g_getI (pc := 6) o flRX3_84 (by first | assumption | rfl) (by first | assumption | omega) dX3_lastCounted_6 ?_
      refine g_icmp_ge (pc := 9) o 29 dX3_lastCounted_9 (by decide) (fun q9 => ?_) (fun q9 => ?_)
      · have ec : c = cn := by have := (le_N (a := cn) (b := c) (by omega) (by omega) hcn rfl).mp q9; omega
        refine g_iload_n (pc := 29) o 1 dX3_lastCounted_29 rfl rfl ?_
        exact g_iret (pc := 30) o f dX3_lastCounted_30 rfl (by rw [ec]) rfl
      · have hc1 : c < cn := by have := mt (le_N (a := cn) (b := c) (by omega) (by omega) hcn rfl).mpr q9; omega
        refine g_iload_n (pc := 12) o 1 dX3_lastCounted_12 rfl rfl ?_
        refine g_aload_n (pc := 13) o 0 dX3_lastCounted_13 rfl rfl ?_
        refine g_getR (pc := 14) o flRX3_47 (by first | assumption | rfl) (by first | assumption | omega) (by assumption) dX3_lastCounted_14 ?_
        refine g_iload_n (pc := 17) o 2 dX3_lastCounted_17 rfl rfl ?_
        refine g_iald (pc := 18) o (c) (by first | assumption | rfl) (by first | assumption | omega) rfl (by omega) dX3_lastCounted_18 ?_
        have hx := hch c hc1
        rw [hx.1]
        have hy := lstN_le c (fun i hi => (hch i (by omega)).2.1)
        refine g_max (pc := 19) o lkRX3_226 rfl rfl ⟨Nat.le_refl _, Nat.le_refl _⟩ dX3_lastCounted_19 ?_ st_max ini_math co_max
        rw [lm_max (by omega) (by omega)]
        refine g_istore_n (pc := 22) o 1 dX3_lastCounted_22 rfl rfl ?_
        refine g_incN (pc := 23) o (c) dX3_lastCounted_23 rfl rfl ?_
        refine g_goto (pc := 26) o 4 dX3_lastCounted_26 (by decide) ?_
        exact ih (c + 1) (by omega) (by omega)
  refine g_iconst (pc := 0) (v := -1) o dX3_lastCounted_0 (by decide) ?_
  refine g_istore_n (pc := 1) o 1 dX3_lastCounted_1 rfl rfl ?_
  refine g_iconst (pc := 2) (v := 0) o dX3_lastCounted_2 (by decide) ?_
  refine g_istore_n (pc := 3) o 2 dX3_lastCounted_3 rfl rfl ?_
  exact loop (cn + 1) 0 (by omega) (by omega)

theorem asC_mono {ch cm : Nat → Nat} {i m : Nat} : ∀ k c, c ≤ k → asC ch cm i m k = true → asC ch cm i m c = true := by
  intro k
  induction k with
  | zero => intro c hc h; rw [Nat.le_zero.mp hc]; exact h
  | succ k ih =>
    intro c hc h
    by_cases e : c = k + 1
    · rw [e]; exact h
    · refine ih c (by omega) ?_
      simp only [asC, Bool.and_eq_true] at h
      exact h.1
theorem asC_no {ch cm : Nat → Nat} {i m c k : Nat} (h : c < k) (hb : asC ch cm i m (c + 1) = false) : ¬ asC ch cm i m k = true := by
  intro q
  have := asC_mono k (c + 1) h q
  rw [hb] at this
  cases this
set_option maxHeartbeats 2000000 in
set_option maxRecDepth 20000 in
theorem cX3isAsCounted  (hn : 96 ≤ n) (x10 : Rf 0 10 = some 39) (x11 : Rf 0 11 = some 40) {cn : Nat} {ch cm : Nat → Nat} (hcn : M 0 12 = nI cn) (hc6 : cn ≤ 6) (hch : ∀ i, i < cn → M 39 i = nI (ch i) ∧ ch i ≤ 20 ∧ M 40 i = nI (cm i) ∧ cm i ≤ 6) {i9 m9 : Nat} (hi9 : i9 < 1000) (hm9 : m9 < 1000) : Ret Λ (d) mX3_isAsCounted [.ref 0, .int (nI i9), .int (nI m9)] (n, M, Rf, Lg) (some (.int (bi (asC ch cm i9 m9 cn = true)))) (n, M, Rf, Lg) 0 0 := by
  refine Ret.of rfl rfl rfl (fun κ o f hin => ?_)
  have loop : ∀ k c : Nat, asC ch cm i9 m9 c = true → c ≤ cn → cn < c + k → G (Λ, κ) 2 [some (.ref 0), some (.int (nI i9)), some (.int (nI m9)), some (.int (nI c))] [] (n, M, Rf, Lg) 0 0 := by
    intro k
    induction k with
    | zero => intro c er h1 h2; exact absurd h2 (by omega)
    | succ k ih =>
      intro c er h1 h2
      refine g_iload_n (pc := 2) o 3 dX3_isAsCounted_2 rfl rfl ?_
      refine g_aload_n (pc := 3) o 0 dX3_isAsCounted_3 rfl rfl ?_
      refine g_getI (pc := 4) o flRX3_84 (by first | assumption | rfl) (by first | assumption | omega) dX3_isAsCounted_4 ?_
      refine g_icmp_ge (pc := 7) o 38 dX3_isAsCounted_7 (by decide) (fun q7 => ?_) (fun q7 => ?_)
      · have ec : c = cn := by have := (le_N (a := cn) (b := c) (by omega) (by omega) hcn rfl).mp q7; omega
        refine g_iconst (pc := 38) (v := 1) o dX3_isAsCounted_38 (by decide) ?_
        exact g_iret (pc := 39) o f dX3_isAsCounted_39 rfl (bi_t (by rw [← ec]; exact er)).symm rfl
      · have hc1 : c < cn := by have := mt (le_N (a := cn) (b := c) (by omega) (by omega) hcn rfl).mpr q7; omega
        refine g_aload_n (pc := 10) o 0 dX3_isAsCounted_10 rfl rfl ?_
        refine g_getR (pc := 11) o flRX3_47 (by first | assumption | rfl) (by first | assumption | omega) (by assumption) dX3_isAsCounted_11 ?_
        refine g_iload_n (pc := 14) o 3 dX3_isAsCounted_14 rfl rfl ?_
        refine g_iald (pc := 15) o (c) (by first | assumption | rfl) (by first | assumption | omega) rfl (by omega) dX3_isAsCounted_15 ?_
        have hx := hch c hc1
        rw [hx.1]
        refine g_iload_n (pc := 16) o 1 dX3_isAsCounted_16 rfl rfl ?_
        refine g_icmp_ne (pc := 17) o 32 dX3_isAsCounted_17 (by decide) (fun q17 => ?_) (fun q17 => ?_)
        · have e1 : asC ch cm i9 m9 (c + 1) = true := by have := mt (eq_N (by omega) (by omega) rfl rfl).mpr q17; simp [asC, er, this]
          refine g_incN (pc := 32) o (c) dX3_isAsCounted_32 rfl rfl ?_
          refine g_goto (pc := 35) o 2 dX3_isAsCounted_35 (by decide) ?_
          exact ih (c + 1) e1 (by omega) (by omega)
        · have g1 := (eq_N (by omega) (by omega) rfl rfl).mp q17
          refine g_aload_n (pc := 20) o 0 dX3_isAsCounted_20 rfl rfl ?_
          refine g_getR (pc := 21) o flRX3_51 (by first | assumption | rfl) (by first | assumption | omega) (by assumption) dX3_isAsCounted_21 ?_
          refine g_iload_n (pc := 24) o 3 dX3_isAsCounted_24 rfl rfl ?_
          refine g_iald (pc := 25) o (c) (by first | assumption | rfl) (by first | assumption | omega) rfl (by omega) dX3_isAsCounted_25 ?_
          rw [hx.2.2.1]
          refine g_iload_n (pc := 26) o 2 dX3_isAsCounted_26 rfl rfl ?_
          refine g_icmp_eq (pc := 27) o 32 dX3_isAsCounted_27 (by decide) (fun q27 => ?_) (fun q27 => ?_)
          · have e1 : asC ch cm i9 m9 (c + 1) = true := by have := (eq_N (by omega) (by omega) rfl rfl).mp q27; simp [asC, er, this]
            refine g_incN (pc := 32) o (c) dX3_isAsCounted_32 rfl rfl ?_
            refine g_goto (pc := 35) o 2 dX3_isAsCounted_35 (by decide) ?_
            exact ih (c + 1) e1 (by omega) (by omega)
          · have g2 := mt (eq_N (by omega) (by omega) rfl rfl).mpr q27
            refine g_iconst (pc := 30) (v := 0) o dX3_isAsCounted_30 (by decide) ?_
            exact g_iret (pc := 31) o f dX3_isAsCounted_31 rfl (bi_f (asC_no (c := c) (by omega) (by simp [asC, g1, g2]))).symm rfl
  refine g_iconst (pc := 0) (v := 0) o dX3_isAsCounted_0 (by decide) ?_
  refine g_istore_n (pc := 1) o 3 dX3_isAsCounted_1 rfl rfl ?_
  exact loop (cn + 1) 0 rfl (by omega) (by omega)

set_option maxHeartbeats 2000000 in
set_option maxRecDepth 20000 in
theorem cX3power  {a e : Nat} (he : e < 1000) : Ret Λ (d) mX3_power [.int (nI a), .int (nI e)] (n, M, Rf, Lg) (some (.int (nI (a ^ e)))) (n, M, Rf, Lg) 0 0 := by
  refine Ret.of rfl rfl rfl (fun κ o f hin => ?_)
  have loop : ∀ k c : Nat, c ≤ e → e < c + k → G (Λ, κ) 4 [some (.int (nI a)), some (.int (nI e)), some (.int (nI (a ^ c))), some (.int (nI c))] [] (n, M, Rf, Lg) 0 0 := by
    intro k
    induction k with
    | zero => intro c h1 h2; exact absurd h2 (by omega)
    | succ k ih =>
      intro c h1 h2
      refine g_iload_n (pc := 4) o 3 dX3_power_4 rfl rfl ?_
      refine g_iload_n (pc := 5) o 1 dX3_power_5 rfl rfl ?_
      refine g_icmp_ge (pc := 6) o 19 dX3_power_6 (by decide) (fun q6 => ?_) (fun q6 => ?_)
      · have ec : c = e := by have := (le_N (a := e) (b := c) (by omega) (by omega) rfl rfl).mp q6; omega
        refine g_iload_n (pc := 19) o 2 dX3_power_19 rfl rfl ?_
        exact g_iret (pc := 20) o f dX3_power_20 rfl (by rw [ec]) rfl
      · have hc1 : c < e := by have := mt (le_N (a := e) (b := c) (by omega) (by omega) rfl rfl).mpr q6; omega
        refine g_iload_n (pc := 9) o 2 dX3_power_9 rfl rfl ?_
        refine g_iload_n (pc := 10) o 0 dX3_power_10 rfl rfl ?_
        refine g_imul (pc := 11) o dX3_power_11 ?_
        rw [pk_mul, ← Nat.pow_succ]
        refine g_istore_n (pc := 12) o 2 dX3_power_12 rfl rfl ?_
        refine g_incN (pc := 13) o (c) dX3_power_13 rfl rfl ?_
        refine g_goto (pc := 16) o 4 dX3_power_16 (by decide) ?_
        exact ih (c + 1) (by omega) (by omega)
  refine g_iconst (pc := 0) (v := 1) o dX3_power_0 (by decide) ?_
  refine g_istore_n (pc := 1) o 2 dX3_power_1 rfl rfl ?_
  refine g_iconst (pc := 2) (v := 0) o dX3_power_2 (by decide) ?_
  refine g_istore_n (pc := 3) o 3 dX3_power_3 rfl rfl ?_
  exact loop (e + 1) 0 (by omega) (by omega)

/-- p taken out of both, at most k times -/
def red (p : Nat) (a b : Nat) : Nat → Nat × Nat
  | 0 => (a, b)
  | k + 1 => if (red p a b k).1 % p = 0 then ((red p a b k).1 / p, (red p a b k).2 / p) else red p a b k
theorem red_le (p a b k : Nat) : (red p a b k).1 ≤ a ∧ (red p a b k).2 ≤ b := by
  induction k with
  | zero => exact ⟨Nat.le_refl _, Nat.le_refl _⟩
  | succ k ih =>
    show (if _ then _ else _ : Nat × Nat).1 ≤ a ∧ (if _ then _ else _ : Nat × Nat).2 ≤ b
    split
    · exact ⟨Nat.le_trans (Nat.div_le_self _ _) ih.1, Nat.le_trans (Nat.div_le_self _ _) ih.2⟩
    · exact ih
def lea (u k : Nat) : Nat × Nat := red 5 (red 2 u (10 ^ k) k).1 (red 2 u (10 ^ k) k).2 k
set_option maxHeartbeats 2000000 in
set_option maxRecDepth 20000 in
theorem cX3inLeast  {u e : Nat} (hu : u < 2000000000) (he : e ≤ 6) (h10 : 10 ^ e < 2000000000) {ww : Int32} : Ret Λ (d + 1) mX3_inLeastTerms [.int (nI u), .int (nI e), .int ww] (n, M, Rf, Lg) (some (.int (if ww = 0 then nI (lea u e).1 else nI (lea u e).2))) (n, M, Rf, Lg) 0 0 := by
  refine Ret.of rfl rfl rfl (fun κ o f hin => ?_)
  obtain ⟨a1, ha1⟩ : ∃ a1, a1 = (red 2 u (10 ^ e) e).1 := ⟨_, rfl⟩
  obtain ⟨b1, hb1⟩ : ∃ b1, b1 = (red 2 u (10 ^ e) e).2 := ⟨_, rfl⟩
  have hle2 := red_le 2 u (10 ^ e) e
  have ef : (if ww = 0 then nI (lea u e).1 else nI (lea u e).2) = (if ww = 0 then nI (red 5 a1 b1 e).1 else nI (red 5 a1 b1 e).2) := by unfold lea; rw [← ha1, ← hb1]
  have loop5 : ∀ k c : Nat, c ≤ e → e < c + k → G (Λ, κ) 44 [some (.int (nI u)), some (.int (nI e)), some (.int ww), some (.int (nI (red 5 a1 b1 c).1)), some (.int (nI (red 5 a1 b1 c).2)), some (.int (nI c))] [] (n, M, Rf, Lg) 0 0 := by
    intro k
    induction k with
    | zero => intro c h1 h2; exact absurd h2 (by omega)
    | succ k ih =>
      intro c h1 h2
      have hle := red_le 5 a1 b1 c
      refine g_iload (pc := 44) o dX3_inLeastTerms_44 rfl ?_
      refine g_iload_n (pc := 46) o 1 dX3_inLeastTerms_46 rfl rfl ?_
      refine g_icmp_ge (pc := 47) o 72 dX3_inLeastTerms_47 (by decide) (fun q47 => ?_) (fun q47 => ?_)
      · have ec : c = e := by have := (le_N (a := e) (b := c) (by omega) (by omega) rfl rfl).mp q47; omega
        refine g_iload_n (pc := 72) o 2 dX3_inLeastTerms_72 rfl rfl ?_
        refine g_if_ne (pc := 73) o 80 dX3_inLeastTerms_73 (by decide) (fun q73 => ?_) (fun q73 => ?_)
        · refine g_iload (pc := 80) o dX3_inLeastTerms_80 rfl ?_
          exact g_iret (pc := 82) o f dX3_inLeastTerms_82 rfl (by rw [ef, ec]; first | rw [if_pos q73] | rw [if_neg q73]) rfl
        · refine g_iload_n (pc := 76) o 3 dX3_inLeastTerms_76 rfl rfl ?_
          refine g_goto (pc := 77) o 82 dX3_inLeastTerms_77 (by decide) ?_
          exact g_iret (pc := 82) o f dX3_inLeastTerms_82 rfl (by rw [ef, ec]; first | rw [if_pos q73] | rw [if_neg q73]) rfl
      · have hc1 : c < e := by have := mt (le_N (a := e) (b := c) (by omega) (by omega) rfl rfl).mpr q47; omega
        refine g_iload_n (pc := 50) o 3 dX3_inLeastTerms_50 rfl rfl ?_
        refine g_iconst (pc := 51) (v := 5) o dX3_inLeastTerms_51 (by decide) ?_
        refine g_irem (pc := 52) o dX3_inLeastTerms_52 (by decide) ?_
        rw [show nI (red 5 a1 b1 c).1 - nI (red 5 a1 b1 c).1 / 5 * 5 = nI ((red 5 a1 b1 c).1 % 5) from pk_rem (by omega) (by decide) (by decide)]
        refine g_if_ne (pc := 53) o 66 dX3_inLeastTerms_53 (by decide) (fun q53 => ?_) (fun q53 => ?_)
        · have g : ¬ (red 5 a1 b1 c).1 % 5 = 0 := mt (eq_N (by omega) (by decide) rfl (rfl : (0 : Int32) = nI 0)).mpr q53
          have e1 : red 5 a1 b1 (c + 1) = red 5 a1 b1 c := if_neg g
          refine g_incN (pc := 66) o (c) dX3_inLeastTerms_66 rfl rfl ?_
          refine g_goto (pc := 69) o 44 dX3_inLeastTerms_69 (by decide) ?_
          refine g_eq rfl ?_ rfl rfl (ih (c + 1) (by omega) (by omega))
          rw [e1]; rfl
        · have g : (red 5 a1 b1 c).1 % 5 = 0 := (eq_N (by omega) (by decide) rfl (rfl : (0 : Int32) = nI 0)).mp q53
          have e1 : red 5 a1 b1 (c + 1) = ((red 5 a1 b1 c).1 / 5, (red 5 a1 b1 c).2 / 5) := if_pos g
          refine g_iload_n (pc := 56) o 3 dX3_inLeastTerms_56 rfl rfl ?_
          refine g_iconst (pc := 57) (v := 5) o dX3_inLeastTerms_57 (by decide) ?_
          refine g_idiv (pc := 58) o dX3_inLeastTerms_58 (by decide) ?_
          rw [show nI (red 5 a1 b1 c).1 / 5 = nI ((red 5 a1 b1 c).1 / 5) from pk_div (by omega) (by decide) (by decide)]
          refine g_istore_n (pc := 59) o 3 dX3_inLeastTerms_59 rfl rfl ?_
          refine g_iload (pc := 60) o dX3_inLeastTerms_60 rfl ?_
          refine g_iconst (pc := 62) (v := 5) o dX3_inLeastTerms_62 (by decide) ?_
          refine g_idiv (pc := 63) o dX3_inLeastTerms_63 (by decide) ?_
          rw [show nI (red 5 a1 b1 c).2 / 5 = nI ((red 5 a1 b1 c).2 / 5) from pk_div (by omega) (by decide) (by decide)]
          refine g_istore (pc := 64) o dX3_inLeastTerms_64 rfl ?_
          refine g_incN (pc := 66) o (c) dX3_inLeastTerms_66 rfl rfl ?_
          refine g_goto (pc := 69) o 44 dX3_inLeastTerms_69 (by decide) ?_
          refine g_eq rfl ?_ rfl rfl (ih (c + 1) (by omega) (by omega))
          rw [e1]; rfl
  have loop2 : ∀ k c : Nat, c ≤ e → e < c + k → G (Λ, κ) 13 [some (.int (nI u)), some (.int (nI e)), some (.int ww), some (.int (nI (red 2 u (10 ^ e) c).1)), some (.int (nI (red 2 u (10 ^ e) c).2)), some (.int (nI c))] [] (n, M, Rf, Lg) 0 0 := by
    intro k
    induction k with
    | zero => intro c h1 h2; exact absurd h2 (by omega)
    | succ k ih =>
      intro c h1 h2
      have hle := red_le 2 u (10 ^ e) c
      refine g_iload (pc := 13) o dX3_inLeastTerms_13 rfl ?_
      refine g_iload_n (pc := 15) o 1 dX3_inLeastTerms_15 rfl rfl ?_
      refine g_icmp_ge (pc := 16) o 41 dX3_inLeastTerms_16 (by decide) (fun q16 => ?_) (fun q16 => ?_)
      · have ec : c = e := by have := (le_N (a := e) (b := c) (by omega) (by omega) rfl rfl).mp q16; omega
        refine g_iconst (pc := 41) (v := 0) o dX3_inLeastTerms_41 (by decide) ?_
        refine g_istore (pc := 42) o dX3_inLeastTerms_42 rfl ?_
        refine g_eq rfl ?_ rfl rfl (loop5 (e + 1) 0 (by omega) (by omega))
        rw [ec, ← ha1, ← hb1]; rfl
      · have hc1 : c < e := by have := mt (le_N (a := e) (b := c) (by omega) (by omega) rfl rfl).mpr q16; omega
        refine g_iload_n (pc := 19) o 3 dX3_inLeastTerms_19 rfl rfl ?_
        refine g_iconst (pc := 20) (v := 2) o dX3_inLeastTerms_20 (by decide) ?_
        refine g_irem (pc := 21) o dX3_inLeastTerms_21 (by decide) ?_
        rw [show nI (red 2 u (10 ^ e) c).1 - nI (red 2 u (10 ^ e) c).1 / 2 * 2 = nI ((red 2 u (10 ^ e) c).1 % 2) from pk_rem (by omega) (by decide) (by decide)]
        refine g_if_ne (pc := 22) o 35 dX3_inLeastTerms_22 (by decide) (fun q22 => ?_) (fun q22 => ?_)
        · have g : ¬ (red 2 u (10 ^ e) c).1 % 2 = 0 := mt (eq_N (by omega) (by decide) rfl (rfl : (0 : Int32) = nI 0)).mpr q22
          have e1 : red 2 u (10 ^ e) (c + 1) = red 2 u (10 ^ e) c := if_neg g
          refine g_incN (pc := 35) o (c) dX3_inLeastTerms_35 rfl rfl ?_
          refine g_goto (pc := 38) o 13 dX3_inLeastTerms_38 (by decide) ?_
          refine g_eq rfl ?_ rfl rfl (ih (c + 1) (by omega) (by omega))
          rw [e1]; rfl
        · have g : (red 2 u (10 ^ e) c).1 % 2 = 0 := (eq_N (by omega) (by decide) rfl (rfl : (0 : Int32) = nI 0)).mp q22
          have e1 : red 2 u (10 ^ e) (c + 1) = ((red 2 u (10 ^ e) c).1 / 2, (red 2 u (10 ^ e) c).2 / 2) := if_pos g
          refine g_iload_n (pc := 25) o 3 dX3_inLeastTerms_25 rfl rfl ?_
          refine g_iconst (pc := 26) (v := 2) o dX3_inLeastTerms_26 (by decide) ?_
          refine g_idiv (pc := 27) o dX3_inLeastTerms_27 (by decide) ?_
          rw [show nI (red 2 u (10 ^ e) c).1 / 2 = nI ((red 2 u (10 ^ e) c).1 / 2) from pk_div (by omega) (by decide) (by decide)]
          refine g_istore_n (pc := 28) o 3 dX3_inLeastTerms_28 rfl rfl ?_
          refine g_iload (pc := 29) o dX3_inLeastTerms_29 rfl ?_
          refine g_iconst (pc := 31) (v := 2) o dX3_inLeastTerms_31 (by decide) ?_
          refine g_idiv (pc := 32) o dX3_inLeastTerms_32 (by decide) ?_
          rw [show nI (red 2 u (10 ^ e) c).2 / 2 = nI ((red 2 u (10 ^ e) c).2 / 2) from pk_div (by omega) (by decide) (by decide)]
          refine g_istore (pc := 33) o dX3_inLeastTerms_33 rfl ?_
          refine g_incN (pc := 35) o (c) dX3_inLeastTerms_35 rfl rfl ?_
          refine g_goto (pc := 38) o 13 dX3_inLeastTerms_38 (by decide) ?_
          refine g_eq rfl ?_ rfl rfl (ih (c + 1) (by omega) (by omega))
          rw [e1]; rfl
  refine g_iload_n (pc := 0) o 0 dX3_inLeastTerms_0 rfl rfl ?_
  refine g_istore_n (pc := 1) o 3 dX3_inLeastTerms_1 rfl rfl ?_
  refine g_bipush (pc := 2) (v := 10) o dX3_inLeastTerms_2 (by decide) ?_
  refine g_iload_n (pc := 4) o 1 dX3_inLeastTerms_4 rfl rfl ?_
  refine g_S2i (pc := 5) o lkRX3_265 cmX3_power (cX3power (a := 10) (by omega)) rfl rfl ⟨Nat.le_refl _, Nat.le_refl _⟩ dX3_inLeastTerms_5 ?_
  refine g_istore (pc := 8) o dX3_inLeastTerms_8 rfl ?_
  refine g_iconst (pc := 10) (v := 0) o dX3_inLeastTerms_10 (by decide) ?_
  refine g_istore (pc := 11) o dX3_inLeastTerms_11 rfl ?_
  exact loop2 (e + 1) 0 (by omega) (by omega)

end M8
end
