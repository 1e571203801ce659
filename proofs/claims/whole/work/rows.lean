section
-- ===== PART A: goes FIRST, ahead of the names: the tables' words, and 'selects' of the private methods out of them =====
/-- a private method of a class that the tables say can be made, by its rows of tables_1 -/
def lw_okq (q : MethodName × Nat) : Prop := (q.1.cls ≠ "java/lang/invoke/MethodHandle" ∧ q.1.cls ≠ "java/lang/invoke/VarHandle") ∧ Cond.instantiable q.1.cls q.2 ∈ tables_1 ∧ Cond.privateMethod q.1 ∈ tables_1 ∧ Cond.instanceMethod q.1 ∈ tables_1
theorem lw_p0 : lw_okq (⟨"SleepCalls$Reader", "nextToken", "()V"⟩, 7) := ⟨⟨by decide +kernel, by decide +kernel⟩, List.mem_of_getElem? (i := 18) (by decide +kernel), List.mem_of_getElem? (i := 168) (by decide +kernel), List.mem_of_getElem? (i := 169) (by decide +kernel)⟩
theorem lw_p1 : lw_okq (⟨"SleepCalls$Reader", "readNumber", "()V"⟩, 7) := ⟨⟨by decide +kernel, by decide +kernel⟩, List.mem_of_getElem? (i := 18) (by decide +kernel), List.mem_of_getElem? (i := 175) (by decide +kernel), List.mem_of_getElem? (i := 176) (by decide +kernel)⟩
theorem lw_p2 : lw_okq (⟨"SleepCalls$Reader", "readItem", "(LSleepCalls$City;I)Z"⟩, 7) := ⟨⟨by decide +kernel, by decide +kernel⟩, List.mem_of_getElem? (i := 18) (by decide +kernel), List.mem_of_getElem? (i := 201) (by decide +kernel), List.mem_of_getElem? (i := 202) (by decide +kernel)⟩
theorem lw_p3 : lw_okq (⟨"SleepCalls$Reader", "mayStand", "(LSleepCalls$City;II)Z"⟩, 7) := ⟨⟨by decide +kernel, by decide +kernel⟩, List.mem_of_getElem? (i := 18) (by decide +kernel), List.mem_of_getElem? (i := 212) (by decide +kernel), List.mem_of_getElem? (i := 213) (by decide +kernel)⟩
theorem lw_p4 : lw_okq (⟨"SleepCalls$Reader", "isWithin", "(II)Z"⟩, 7) := ⟨⟨by decide +kernel, by decide +kernel⟩, List.mem_of_getElem? (i := 18) (by decide +kernel), List.mem_of_getElem? (i := 216) (by decide +kernel), List.mem_of_getElem? (i := 217) (by decide +kernel)⟩
theorem lw_p5 : lw_okq (⟨"SleepCalls$Reader", "mayStandForCitizen", "(I)Z"⟩, 7) := ⟨⟨by decide +kernel, by decide +kernel⟩, List.mem_of_getElem? (i := 18) (by decide +kernel), List.mem_of_getElem? (i := 220) (by decide +kernel), List.mem_of_getElem? (i := 221) (by decide +kernel)⟩
theorem lw_p6 : lw_okq (⟨"SleepCalls$City", "tellCitizen", "([I)V"⟩, 16) := ⟨⟨by decide +kernel, by decide +kernel⟩, List.mem_of_getElem? (i := 50) (by decide +kernel), List.mem_of_getElem? (i := 228) (by decide +kernel), List.mem_of_getElem? (i := 229) (by decide +kernel)⟩
theorem lw_p7 : lw_okq (⟨"SleepCalls$City", "tellNoise", "([I)V"⟩, 16) := ⟨⟨by decide +kernel, by decide +kernel⟩, List.mem_of_getElem? (i := 50) (by decide +kernel), List.mem_of_getElem? (i := 232) (by decide +kernel), List.mem_of_getElem? (i := 233) (by decide +kernel)⟩
theorem lw_p8 : lw_okq (⟨"SleepCalls", "isDistrict", "(I)Z"⟩, 17) := ⟨⟨by decide +kernel, by decide +kernel⟩, List.mem_of_getElem? (i := 10) (by decide +kernel), List.mem_of_getElem? (i := 309) (by decide +kernel), List.mem_of_getElem? (i := 310) (by decide +kernel)⟩
theorem lw_p9 : lw_okq (⟨"SleepCalls", "isCitizen", "(I)Z"⟩, 17) := ⟨⟨by decide +kernel, by decide +kernel⟩, List.mem_of_getElem? (i := 10) (by decide +kernel), List.mem_of_getElem? (i := 317) (by decide +kernel), List.mem_of_getElem? (i := 318) (by decide +kernel)⟩
theorem lw_p10 : lw_okq (⟨"SleepCalls", "sleptMost", "()I"⟩, 17) := ⟨⟨by decide +kernel, by decide +kernel⟩, List.mem_of_getElem? (i := 10) (by decide +kernel), List.mem_of_getElem? (i := 329) (by decide +kernel), List.mem_of_getElem? (i := 330) (by decide +kernel)⟩
theorem lw_p11 : lw_okq (⟨"SleepCalls", "sleptLeast", "()I"⟩, 17) := ⟨⟨by decide +kernel, by decide +kernel⟩, List.mem_of_getElem? (i := 10) (by decide +kernel), List.mem_of_getElem? (i := 333) (by decide +kernel), List.mem_of_getElem? (i := 334) (by decide +kernel)⟩
theorem lw_p12 : lw_okq (⟨"SleepCalls", "remember", "()V"⟩, 17) := ⟨⟨by decide +kernel, by decide +kernel⟩, List.mem_of_getElem? (i := 10) (by decide +kernel), List.mem_of_getElem? (i := 341) (by decide +kernel), List.mem_of_getElem? (i := 342) (by decide +kernel)⟩
theorem lw_p13 : lw_okq (⟨"SleepCalls", "goBy", "(LSleepCalls$Now;I)I"⟩, 17) := ⟨⟨by decide +kernel, by decide +kernel⟩, List.mem_of_getElem? (i := 10) (by decide +kernel), List.mem_of_getElem? (i := 357) (by decide +kernel), List.mem_of_getElem? (i := 358) (by decide +kernel)⟩
theorem lw_p14 : lw_okq (⟨"SleepCalls", "firstLapse", "(II)I"⟩, 17) := ⟨⟨by decide +kernel, by decide +kernel⟩, List.mem_of_getElem? (i := 10) (by decide +kernel), List.mem_of_getElem? (i := 403) (by decide +kernel), List.mem_of_getElem? (i := 404) (by decide +kernel)⟩
theorem lw_p15 : lw_okq (⟨"SleepCalls", "lapses", "(I)Z"⟩, 17) := ⟨⟨by decide +kernel, by decide +kernel⟩, List.mem_of_getElem? (i := 10) (by decide +kernel), List.mem_of_getElem? (i := 407) (by decide +kernel), List.mem_of_getElem? (i := 408) (by decide +kernel)⟩
def lw_privs_1 : List (MethodName × Nat) := [(⟨"SleepCalls$Reader", "nextToken", "()V"⟩, 7), (⟨"SleepCalls$Reader", "readNumber", "()V"⟩, 7), (⟨"SleepCalls$Reader", "readItem", "(LSleepCalls$City;I)Z"⟩, 7), (⟨"SleepCalls$Reader", "mayStand", "(LSleepCalls$City;II)Z"⟩, 7), (⟨"SleepCalls$Reader", "isWithin", "(II)Z"⟩, 7), (⟨"SleepCalls$Reader", "mayStandForCitizen", "(I)Z"⟩, 7), (⟨"SleepCalls$City", "tellCitizen", "([I)V"⟩, 16), (⟨"SleepCalls$City", "tellNoise", "([I)V"⟩, 16), (⟨"SleepCalls", "isDistrict", "(I)Z"⟩, 17), (⟨"SleepCalls", "isCitizen", "(I)Z"⟩, 17), (⟨"SleepCalls", "sleptMost", "()I"⟩, 17), (⟨"SleepCalls", "sleptLeast", "()I"⟩, 17), (⟨"SleepCalls", "remember", "()V"⟩, 17), (⟨"SleepCalls", "goBy", "(LSleepCalls$Now;I)I"⟩, 17), (⟨"SleepCalls", "firstLapse", "(II)I"⟩, 17), (⟨"SleepCalls", "lapses", "(I)Z"⟩, 17)]
theorem lw_r1 : ∀ q ∈ lw_privs_1, lw_okq q := List.forall_mem_cons.mpr ⟨lw_p0, List.forall_mem_cons.mpr ⟨lw_p1, List.forall_mem_cons.mpr ⟨lw_p2, List.forall_mem_cons.mpr ⟨lw_p3, List.forall_mem_cons.mpr ⟨lw_p4, List.forall_mem_cons.mpr ⟨lw_p5, List.forall_mem_cons.mpr ⟨lw_p6, List.forall_mem_cons.mpr ⟨lw_p7, List.forall_mem_cons.mpr ⟨lw_p8, List.forall_mem_cons.mpr ⟨lw_p9, List.forall_mem_cons.mpr ⟨lw_p10, List.forall_mem_cons.mpr ⟨lw_p11, List.forall_mem_cons.mpr ⟨lw_p12, List.forall_mem_cons.mpr ⟨lw_p13, List.forall_mem_cons.mpr ⟨lw_p14, List.forall_mem_cons.mpr ⟨lw_p15, fun _ h => absurd h List.not_mem_nil⟩⟩⟩⟩⟩⟩⟩⟩⟩⟩⟩⟩⟩⟩⟩⟩
theorem lw_p16 : lw_okq (⟨"SleepCalls", "enoughInEach", "(I)Z"⟩, 17) := ⟨⟨by decide +kernel, by decide +kernel⟩, List.mem_of_getElem? (i := 10) (by decide +kernel), List.mem_of_getElem? (i := 417) (by decide +kernel), List.mem_of_getElem? (i := 418) (by decide +kernel)⟩
theorem lw_p17 : lw_okq (⟨"SleepCalls", "hourAhead", "(I)I"⟩, 17) := ⟨⟨by decide +kernel, by decide +kernel⟩, List.mem_of_getElem? (i := 10) (by decide +kernel), List.mem_of_getElem? (i := 421) (by decide +kernel), List.mem_of_getElem? (i := 422) (by decide +kernel)⟩
theorem lw_p18 : lw_okq (⟨"SleepCalls", "callUpFrom", "(II)Z"⟩, 17) := ⟨⟨by decide +kernel, by decide +kernel⟩, List.mem_of_getElem? (i := 10) (by decide +kernel), List.mem_of_getElem? (i := 434) (by decide +kernel), List.mem_of_getElem? (i := 435) (by decide +kernel)⟩
theorem lw_p19 : lw_okq (⟨"SleepCalls", "wakingCost", "(III)I"⟩, 17) := ⟨⟨by decide +kernel, by decide +kernel⟩, List.mem_of_getElem? (i := 10) (by decide +kernel), List.mem_of_getElem? (i := 447) (by decide +kernel), List.mem_of_getElem? (i := 448) (by decide +kernel)⟩
theorem lw_p20 : lw_okq (⟨"SleepCalls", "driveOn", "(III)V"⟩, 17) := ⟨⟨by decide +kernel, by decide +kernel⟩, List.mem_of_getElem? (i := 10) (by decide +kernel), List.mem_of_getElem? (i := 452) (by decide +kernel), List.mem_of_getElem? (i := 453) (by decide +kernel)⟩
theorem lw_p21 : lw_okq (⟨"SleepCalls", "makesCountsSo", "(I)Z"⟩, 17) := ⟨⟨by decide +kernel, by decide +kernel⟩, List.mem_of_getElem? (i := 10) (by decide +kernel), List.mem_of_getElem? (i := 477) (by decide +kernel), List.mem_of_getElem? (i := 478) (by decide +kernel)⟩
theorem lw_p22 : lw_okq (⟨"SleepCalls", "lastCounted", "()I"⟩, 17) := ⟨⟨by decide +kernel, by decide +kernel⟩, List.mem_of_getElem? (i := 10) (by decide +kernel), List.mem_of_getElem? (i := 481) (by decide +kernel), List.mem_of_getElem? (i := 482) (by decide +kernel)⟩
theorem lw_p23 : lw_okq (⟨"SleepCalls", "isAsCounted", "(II)Z"⟩, 17) := ⟨⟨by decide +kernel, by decide +kernel⟩, List.mem_of_getElem? (i := 10) (by decide +kernel), List.mem_of_getElem? (i := 485) (by decide +kernel), List.mem_of_getElem? (i := 486) (by decide +kernel)⟩
theorem lw_p24 : lw_okq (⟨"SleepCalls", "asCitizen", "(I)I"⟩, 17) := ⟨⟨by decide +kernel, by decide +kernel⟩, List.mem_of_getElem? (i := 10) (by decide +kernel), List.mem_of_getElem? (i := 507) (by decide +kernel), List.mem_of_getElem? (i := 508) (by decide +kernel)⟩
theorem lw_p25 : lw_okq (⟨"SleepCalls", "asBaker", "(I)I"⟩, 17) := ⟨⟨by decide +kernel, by decide +kernel⟩, List.mem_of_getElem? (i := 10) (by decide +kernel), List.mem_of_getElem? (i := 511) (by decide +kernel), List.mem_of_getElem? (i := 512) (by decide +kernel)⟩
theorem lw_p26 : lw_okq (⟨"SleepCalls", "asDeputy", "(I)I"⟩, 17) := ⟨⟨by decide +kernel, by decide +kernel⟩, List.mem_of_getElem? (i := 10) (by decide +kernel), List.mem_of_getElem? (i := 516) (by decide +kernel), List.mem_of_getElem? (i := 517) (by decide +kernel)⟩
theorem lw_p27 : lw_okq (⟨"SleepCalls", "asGuard", "(I)I"⟩, 17) := ⟨⟨by decide +kernel, by decide +kernel⟩, List.mem_of_getElem? (i := 10) (by decide +kernel), List.mem_of_getElem? (i := 521) (by decide +kernel), List.mem_of_getElem? (i := 522) (by decide +kernel)⟩
theorem lw_p28 : lw_okq (⟨"SleepCalls", "asTwin", "(I)I"⟩, 17) := ⟨⟨by decide +kernel, by decide +kernel⟩, List.mem_of_getElem? (i := 10) (by decide +kernel), List.mem_of_getElem? (i := 526) (by decide +kernel), List.mem_of_getElem? (i := 527) (by decide +kernel)⟩
theorem lw_p29 : lw_okq (⟨"SleepCalls", "asVeteran", "(I)I"⟩, 17) := ⟨⟨by decide +kernel, by decide +kernel⟩, List.mem_of_getElem? (i := 10) (by decide +kernel), List.mem_of_getElem? (i := 531) (by decide +kernel), List.mem_of_getElem? (i := 532) (by decide +kernel)⟩
theorem lw_p30 : lw_okq (⟨"SleepCallsModel", "reads", "()Z"⟩, 26) := ⟨⟨by decide +kernel, by decide +kernel⟩, List.mem_of_getElem? (i := 552) (by decide +kernel), List.mem_of_getElem? (i := 558) (by decide +kernel), List.mem_of_getElem? (i := 559) (by decide +kernel)⟩
theorem lw_p31 : lw_okq (⟨"SleepCallsModel", "token", "()V"⟩, 26) := ⟨⟨by decide +kernel, by decide +kernel⟩, List.mem_of_getElem? (i := 552) (by decide +kernel), List.mem_of_getElem? (i := 565) (by decide +kernel), List.mem_of_getElem? (i := 566) (by decide +kernel)⟩
def lw_privs_2 : List (MethodName × Nat) := [(⟨"SleepCalls", "enoughInEach", "(I)Z"⟩, 17), (⟨"SleepCalls", "hourAhead", "(I)I"⟩, 17), (⟨"SleepCalls", "callUpFrom", "(II)Z"⟩, 17), (⟨"SleepCalls", "wakingCost", "(III)I"⟩, 17), (⟨"SleepCalls", "driveOn", "(III)V"⟩, 17), (⟨"SleepCalls", "makesCountsSo", "(I)Z"⟩, 17), (⟨"SleepCalls", "lastCounted", "()I"⟩, 17), (⟨"SleepCalls", "isAsCounted", "(II)Z"⟩, 17), (⟨"SleepCalls", "asCitizen", "(I)I"⟩, 17), (⟨"SleepCalls", "asBaker", "(I)I"⟩, 17), (⟨"SleepCalls", "asDeputy", "(I)I"⟩, 17), (⟨"SleepCalls", "asGuard", "(I)I"⟩, 17), (⟨"SleepCalls", "asTwin", "(I)I"⟩, 17), (⟨"SleepCalls", "asVeteran", "(I)I"⟩, 17), (⟨"SleepCallsModel", "reads", "()Z"⟩, 26), (⟨"SleepCallsModel", "token", "()V"⟩, 26)]
theorem lw_r2 : ∀ q ∈ lw_privs_2, lw_okq q := List.forall_mem_cons.mpr ⟨lw_p16, List.forall_mem_cons.mpr ⟨lw_p17, List.forall_mem_cons.mpr ⟨lw_p18, List.forall_mem_cons.mpr ⟨lw_p19, List.forall_mem_cons.mpr ⟨lw_p20, List.forall_mem_cons.mpr ⟨lw_p21, List.forall_mem_cons.mpr ⟨lw_p22, List.forall_mem_cons.mpr ⟨lw_p23, List.forall_mem_cons.mpr ⟨lw_p24, List.forall_mem_cons.mpr ⟨lw_p25, List.forall_mem_cons.mpr ⟨lw_p26, List.forall_mem_cons.mpr ⟨lw_p27, List.forall_mem_cons.mpr ⟨lw_p28, List.forall_mem_cons.mpr ⟨lw_p29, List.forall_mem_cons.mpr ⟨lw_p30, List.forall_mem_cons.mpr ⟨lw_p31, fun _ h => absurd h List.not_mem_nil⟩⟩⟩⟩⟩⟩⟩⟩⟩⟩⟩⟩⟩⟩⟩⟩
theorem lw_p32 : lw_okq (⟨"SleepCallsModel", "letterAt", "(I)I"⟩, 26) := ⟨⟨by decide +kernel, by decide +kernel⟩, List.mem_of_getElem? (i := 552) (by decide +kernel), List.mem_of_getElem? (i := 569) (by decide +kernel), List.mem_of_getElem? (i := 570) (by decide +kernel)⟩
theorem lw_p33 : lw_okq (⟨"SleepCallsModel", "readsItem", "()Z"⟩, 26) := ⟨⟨by decide +kernel, by decide +kernel⟩, List.mem_of_getElem? (i := 552) (by decide +kernel), List.mem_of_getElem? (i := 579) (by decide +kernel), List.mem_of_getElem? (i := 580) (by decide +kernel)⟩
theorem lw_p34 : lw_okq (⟨"SleepCallsModel", "readsDistricts", "()Z"⟩, 26) := ⟨⟨by decide +kernel, by decide +kernel⟩, List.mem_of_getElem? (i := 552) (by decide +kernel), List.mem_of_getElem? (i := 583) (by decide +kernel), List.mem_of_getElem? (i := 584) (by decide +kernel)⟩
theorem lw_p35 : lw_okq (⟨"SleepCallsModel", "number", "(III)Z"⟩, 26) := ⟨⟨by decide +kernel, by decide +kernel⟩, List.mem_of_getElem? (i := 552) (by decide +kernel), List.mem_of_getElem? (i := 587) (by decide +kernel), List.mem_of_getElem? (i := 588) (by decide +kernel)⟩
theorem lw_p36 : lw_okq (⟨"SleepCallsModel", "readsQuota", "()Z"⟩, 26) := ⟨⟨by decide +kernel, by decide +kernel⟩, List.mem_of_getElem? (i := 552) (by decide +kernel), List.mem_of_getElem? (i := 591) (by decide +kernel), List.mem_of_getElem? (i := 592) (by decide +kernel)⟩
theorem lw_p37 : lw_okq (⟨"SleepCallsModel", "readsRoad", "()Z"⟩, 26) := ⟨⟨by decide +kernel, by decide +kernel⟩, List.mem_of_getElem? (i := 552) (by decide +kernel), List.mem_of_getElem? (i := 595) (by decide +kernel), List.mem_of_getElem? (i := 596) (by decide +kernel)⟩
theorem lw_p38 : lw_okq (⟨"SleepCallsModel", "readsBeds", "()Z"⟩, 26) := ⟨⟨by decide +kernel, by decide +kernel⟩, List.mem_of_getElem? (i := 552) (by decide +kernel), List.mem_of_getElem? (i := 599) (by decide +kernel), List.mem_of_getElem? (i := 600) (by decide +kernel)⟩
theorem lw_p39 : lw_okq (⟨"SleepCallsModel", "readsCitizen", "()Z"⟩, 26) := ⟨⟨by decide +kernel, by decide +kernel⟩, List.mem_of_getElem? (i := 552) (by decide +kernel), List.mem_of_getElem? (i := 603) (by decide +kernel), List.mem_of_getElem? (i := 604) (by decide +kernel)⟩
theorem lw_p40 : lw_okq (⟨"SleepCallsModel", "readsNoise", "()Z"⟩, 26) := ⟨⟨by decide +kernel, by decide +kernel⟩, List.mem_of_getElem? (i := 552) (by decide +kernel), List.mem_of_getElem? (i := 607) (by decide +kernel), List.mem_of_getElem? (i := 608) (by decide +kernel)⟩
theorem lw_p41 : lw_okq (⟨"SleepCallsModel", "tells", "()V"⟩, 26) := ⟨⟨by decide +kernel, by decide +kernel⟩, List.mem_of_getElem? (i := 552) (by decide +kernel), List.mem_of_getElem? (i := 611) (by decide +kernel), List.mem_of_getElem? (i := 612) (by decide +kernel)⟩
theorem lw_p42 : lw_okq (⟨"SleepCallsModel", "begins", "()V"⟩, 26) := ⟨⟨by decide +kernel, by decide +kernel⟩, List.mem_of_getElem? (i := 552) (by decide +kernel), List.mem_of_getElem? (i := 615) (by decide +kernel), List.mem_of_getElem? (i := 616) (by decide +kernel)⟩
theorem lw_p43 : lw_okq (⟨"SleepCallsModel", "isDistrict", "(I)Z"⟩, 26) := ⟨⟨by decide +kernel, by decide +kernel⟩, List.mem_of_getElem? (i := 552) (by decide +kernel), List.mem_of_getElem? (i := 714) (by decide +kernel), List.mem_of_getElem? (i := 715) (by decide +kernel)⟩
theorem lw_p44 : lw_okq (⟨"SleepCallsModel", "isCitizen", "(I)Z"⟩, 26) := ⟨⟨by decide +kernel, by decide +kernel⟩, List.mem_of_getElem? (i := 552) (by decide +kernel), List.mem_of_getElem? (i := 722) (by decide +kernel), List.mem_of_getElem? (i := 723) (by decide +kernel)⟩
theorem lw_p45 : lw_okq (⟨"SleepCallsModel", "most", "(I)I"⟩, 26) := ⟨⟨by decide +kernel, by decide +kernel⟩, List.mem_of_getElem? (i := 552) (by decide +kernel), List.mem_of_getElem? (i := 734) (by decide +kernel), List.mem_of_getElem? (i := 735) (by decide +kernel)⟩
theorem lw_p46 : lw_okq (⟨"SleepCallsModel", "keeps", "()V"⟩, 26) := ⟨⟨by decide +kernel, by decide +kernel⟩, List.mem_of_getElem? (i := 552) (by decide +kernel), List.mem_of_getElem? (i := 742) (by decide +kernel), List.mem_of_getElem? (i := 743) (by decide +kernel)⟩
theorem lw_p47 : lw_okq (⟨"SleepCallsModel", "calledNow", "()I"⟩, 26) := ⟨⟨by decide +kernel, by decide +kernel⟩, List.mem_of_getElem? (i := 552) (by decide +kernel), List.mem_of_getElem? (i := 750) (by decide +kernel), List.mem_of_getElem? (i := 751) (by decide +kernel)⟩
def lw_privs_3 : List (MethodName × Nat) := [(⟨"SleepCallsModel", "letterAt", "(I)I"⟩, 26), (⟨"SleepCallsModel", "readsItem", "()Z"⟩, 26), (⟨"SleepCallsModel", "readsDistricts", "()Z"⟩, 26), (⟨"SleepCallsModel", "number", "(III)Z"⟩, 26), (⟨"SleepCallsModel", "readsQuota", "()Z"⟩, 26), (⟨"SleepCallsModel", "readsRoad", "()Z"⟩, 26), (⟨"SleepCallsModel", "readsBeds", "()Z"⟩, 26), (⟨"SleepCallsModel", "readsCitizen", "()Z"⟩, 26), (⟨"SleepCallsModel", "readsNoise", "()Z"⟩, 26), (⟨"SleepCallsModel", "tells", "()V"⟩, 26), (⟨"SleepCallsModel", "begins", "()V"⟩, 26), (⟨"SleepCallsModel", "isDistrict", "(I)Z"⟩, 26), (⟨"SleepCallsModel", "isCitizen", "(I)Z"⟩, 26), (⟨"SleepCallsModel", "most", "(I)I"⟩, 26), (⟨"SleepCallsModel", "keeps", "()V"⟩, 26), (⟨"SleepCallsModel", "calledNow", "()I"⟩, 26)]
theorem lw_r3 : ∀ q ∈ lw_privs_3, lw_okq q := List.forall_mem_cons.mpr ⟨lw_p32, List.forall_mem_cons.mpr ⟨lw_p33, List.forall_mem_cons.mpr ⟨lw_p34, List.forall_mem_cons.mpr ⟨lw_p35, List.forall_mem_cons.mpr ⟨lw_p36, List.forall_mem_cons.mpr ⟨lw_p37, List.forall_mem_cons.mpr ⟨lw_p38, List.forall_mem_cons.mpr ⟨lw_p39, List.forall_mem_cons.mpr ⟨lw_p40, List.forall_mem_cons.mpr ⟨lw_p41, List.forall_mem_cons.mpr ⟨lw_p42, List.forall_mem_cons.mpr ⟨lw_p43, List.forall_mem_cons.mpr ⟨lw_p44, List.forall_mem_cons.mpr ⟨lw_p45, List.forall_mem_cons.mpr ⟨lw_p46, List.forall_mem_cons.mpr ⟨lw_p47, fun _ h => absurd h List.not_mem_nil⟩⟩⟩⟩⟩⟩⟩⟩⟩⟩⟩⟩⟩⟩⟩⟩
theorem lw_p48 : lw_okq (⟨"SleepCallsModel", "asleep", "(I)I"⟩, 26) := ⟨⟨by decide +kernel, by decide +kernel⟩, List.mem_of_getElem? (i := 552) (by decide +kernel), List.mem_of_getElem? (i := 754) (by decide +kernel), List.mem_of_getElem? (i := 755) (by decide +kernel)⟩
theorem lw_p49 : lw_okq (⟨"SleepCallsModel", "could", "(IZ)Z"⟩, 26) := ⟨⟨by decide +kernel, by decide +kernel⟩, List.mem_of_getElem? (i := 552) (by decide +kernel), List.mem_of_getElem? (i := 758) (by decide +kernel), List.mem_of_getElem? (i := 759) (by decide +kernel)⟩
theorem lw_p50 : lw_okq (⟨"SleepCallsModel", "loudest", "(I)I"⟩, 26) := ⟨⟨by decide +kernel, by decide +kernel⟩, List.mem_of_getElem? (i := 552) (by decide +kernel), List.mem_of_getElem? (i := 762) (by decide +kernel), List.mem_of_getElem? (i := 763) (by decide +kernel)⟩
theorem lw_p51 : lw_okq (⟨"SleepCallsModel", "goes", "(I)Z"⟩, 26) := ⟨⟨by decide +kernel, by decide +kernel⟩, List.mem_of_getElem? (i := 552) (by decide +kernel), List.mem_of_getElem? (i := 766) (by decide +kernel), List.mem_of_getElem? (i := 767) (by decide +kernel)⟩
theorem lw_p52 : lw_okq (⟨"SleepCallsModel", "holds", "()V"⟩, 26) := ⟨⟨by decide +kernel, by decide +kernel⟩, List.mem_of_getElem? (i := 552) (by decide +kernel), List.mem_of_getElem? (i := 781) (by decide +kernel), List.mem_of_getElem? (i := 782) (by decide +kernel)⟩
theorem lw_p53 : lw_okq (⟨"SleepCallsModel", "lets", "()V"⟩, 26) := ⟨⟨by decide +kernel, by decide +kernel⟩, List.mem_of_getElem? (i := 552) (by decide +kernel), List.mem_of_getElem? (i := 785) (by decide +kernel), List.mem_of_getElem? (i := 786) (by decide +kernel)⟩
theorem lw_p54 : lw_okq (⟨"SleepCallsModel", "lapseIn", "(I)I"⟩, 26) := ⟨⟨by decide +kernel, by decide +kernel⟩, List.mem_of_getElem? (i := 552) (by decide +kernel), List.mem_of_getElem? (i := 793) (by decide +kernel), List.mem_of_getElem? (i := 794) (by decide +kernel)⟩
theorem lw_p55 : lw_okq (⟨"SleepCallsModel", "seeks", "(I)V"⟩, 26) := ⟨⟨by decide +kernel, by decide +kernel⟩, List.mem_of_getElem? (i := 552) (by decide +kernel), List.mem_of_getElem? (i := 801) (by decide +kernel), List.mem_of_getElem? (i := 802) (by decide +kernel)⟩
theorem lw_p56 : lw_okq (⟨"SleepCallsModel", "puts", "(I)V"⟩, 26) := ⟨⟨by decide +kernel, by decide +kernel⟩, List.mem_of_getElem? (i := 552) (by decide +kernel), List.mem_of_getElem? (i := 805) (by decide +kernel), List.mem_of_getElem? (i := 806) (by decide +kernel)⟩
theorem lw_p57 : lw_okq (⟨"SleepCallsModel", "takes", "(I)V"⟩, 26) := ⟨⟨by decide +kernel, by decide +kernel⟩, List.mem_of_getElem? (i := 552) (by decide +kernel), List.mem_of_getElem? (i := 809) (by decide +kernel), List.mem_of_getElem? (i := 810) (by decide +kernel)⟩
theorem lw_p58 : lw_okq (⟨"SleepCallsModel", "far", "(III)I"⟩, 26) := ⟨⟨by decide +kernel, by decide +kernel⟩, List.mem_of_getElem? (i := 552) (by decide +kernel), List.mem_of_getElem? (i := 821) (by decide +kernel), List.mem_of_getElem? (i := 822) (by decide +kernel)⟩
theorem lw_p59 : lw_okq (⟨"SleepCallsModel", "isSo", "()Z"⟩, 26) := ⟨⟨by decide +kernel, by decide +kernel⟩, List.mem_of_getElem? (i := 552) (by decide +kernel), List.mem_of_getElem? (i := 845) (by decide +kernel), List.mem_of_getElem? (i := 846) (by decide +kernel)⟩
def lw_privs_4 : List (MethodName × Nat) := [(⟨"SleepCallsModel", "asleep", "(I)I"⟩, 26), (⟨"SleepCallsModel", "could", "(IZ)Z"⟩, 26), (⟨"SleepCallsModel", "loudest", "(I)I"⟩, 26), (⟨"SleepCallsModel", "goes", "(I)Z"⟩, 26), (⟨"SleepCallsModel", "holds", "()V"⟩, 26), (⟨"SleepCallsModel", "lets", "()V"⟩, 26), (⟨"SleepCallsModel", "lapseIn", "(I)I"⟩, 26), (⟨"SleepCallsModel", "seeks", "(I)V"⟩, 26), (⟨"SleepCallsModel", "puts", "(I)V"⟩, 26), (⟨"SleepCallsModel", "takes", "(I)V"⟩, 26), (⟨"SleepCallsModel", "far", "(III)I"⟩, 26), (⟨"SleepCallsModel", "isSo", "()Z"⟩, 26)]
theorem lw_r4 : ∀ q ∈ lw_privs_4, lw_okq q := List.forall_mem_cons.mpr ⟨lw_p48, List.forall_mem_cons.mpr ⟨lw_p49, List.forall_mem_cons.mpr ⟨lw_p50, List.forall_mem_cons.mpr ⟨lw_p51, List.forall_mem_cons.mpr ⟨lw_p52, List.forall_mem_cons.mpr ⟨lw_p53, List.forall_mem_cons.mpr ⟨lw_p54, List.forall_mem_cons.mpr ⟨lw_p55, List.forall_mem_cons.mpr ⟨lw_p56, List.forall_mem_cons.mpr ⟨lw_p57, List.forall_mem_cons.mpr ⟨lw_p58, List.forall_mem_cons.mpr ⟨lw_p59, fun _ h => absurd h List.not_mem_nil⟩⟩⟩⟩⟩⟩⟩⟩⟩⟩⟩⟩
def lw_privs : List (MethodName × Nat) := lw_privs_1 ++ (lw_privs_2 ++ (lw_privs_3 ++ (lw_privs_4)))
def lw_tbl : List Cond := k2_sels lw_privs ++ tables_1
theorem lw_privs_ok : ∀ q ∈ lw_privs, lw_okq q := by
  show ∀ q ∈ lw_privs_1 ++ (lw_privs_2 ++ (lw_privs_3 ++ (lw_privs_4))), lw_okq q
  exact List.forall_mem_append.mpr ⟨lw_r1, List.forall_mem_append.mpr ⟨lw_r2, List.forall_mem_append.mpr ⟨lw_r3, lw_r4⟩⟩⟩
def RX0 : String := "SleepCalls$City"
def TX0 : u_T := fun k => match k with
  | 0 => ("SleepCalls$City", "districts", "I", false)
  | 1 => ("SleepCalls$City", "quota", "I", false)
  | 2 => ("SleepCalls$City", "quotaTold", "Z", false)
  | 3 => ("SleepCalls$City", "beds", "[I", true)
  | 4 => ("SleepCalls$City", "joined", "[I", true)
  | 5 => ("SleepCalls$City", "citizens", "I", false)
  | 6 => ("SleepCalls$City", "home", "[I", true)
  | 7 => ("SleepCalls$City", "tiredAtFirst", "[I", true)
  | 8 => ("SleepCalls$City", "work", "[I", true)
  | 9 => ("SleepCalls$City", "deep", "[I", true)
  | 10 => ("SleepCalls$City", "noises", "I", false)
  | 11 => ("SleepCalls$City", "noiseDistrict", "[I", true)
  | 12 => ("SleepCalls$City", "noiseHour", "[I", true)
  | 13 => ("SleepCalls$City", "noiseLoud", "[I", true)
  | 14 => ("SleepCalls$City", "livingIn", "[I", true)
  | _ => ("SleepCalls$City", "restfulIn", "[I", true)
def tyX0 : Nat → FieldType := fun k => match k with
  | 0 => .int
  | 1 => .int
  | 2 => .boolean
  | 3 => .array .int
  | 4 => .array .int
  | 5 => .int
  | 6 => .array .int
  | 7 => .array .int
  | 8 => .array .int
  | 9 => .array .int
  | 10 => .int
  | 11 => .array .int
  | 12 => .array .int
  | 13 => .array .int
  | 14 => .array .int
  | _ => .array .int
theorem nmX0 : ∀ a, a < 16 → ∀ b, b < 16 → a ≠ b → (TX0 a).2.1 ≠ (TX0 b).2.1 := by decide +kernel
theorem tyX0_ok : ∀ k, k < 16 → parseFieldDescriptor (TX0 k).2.2.1 = some (tyX0 k) := by decide +kernel
abbrev cX0_init : ByteArray := prog_2_method_1_code
def yX0_init : MethodName := ⟨RX0, "<init>", "()V"⟩
abbrev cX0_restart : ByteArray := prog_2_method_2_code
def yX0_restart : MethodName := ⟨RX0, "restart", "()V"⟩
abbrev cX0_mayComeNext : ByteArray := prog_2_method_3_code
def yX0_mayComeNext : MethodName := ⟨RX0, "mayComeNext", "(II)Z"⟩
abbrev cX0_tell : ByteArray := prog_2_method_4_code
def yX0_tell : MethodName := ⟨RX0, "tell", "(I[I)V"⟩
abbrev cX0_tellCitizen : ByteArray := prog_2_method_5_code
def yX0_tellCitizen : MethodName := ⟨RX0, "tellCitizen", "([I)V"⟩
abbrev cX0_tellNoise : ByteArray := prog_2_method_6_code
def yX0_tellNoise : MethodName := ⟨RX0, "tellNoise", "([I)V"⟩
abbrev cX0_settle : ByteArray := prog_2_method_7_code
def yX0_settle : MethodName := ⟨RX0, "settle", "()V"⟩
abbrev cX0_tiredOf : ByteArray := prog_2_method_8_code
def yX0_tiredOf : MethodName := ⟨RX0, "tiredOf", "([I)I"⟩
abbrev cX0_bedded : ByteArray := prog_2_method_9_code
def yX0_bedded : MethodName := ⟨RX0, "bedded", "(I)I"⟩
abbrev cX0_couldLieDown : ByteArray := prog_2_method_10_code
def yX0_couldLieDown : MethodName := ⟨RX0, "couldLieDown", "(LSleepCalls$Now;)I"⟩
abbrev cX0_lyingDown : ByteArray := prog_2_method_11_code
def yX0_lyingDown : MethodName := ⟨RX0, "lyingDown", "(LSleepCalls$Now;I)I"⟩
abbrev cX0_asleep : ByteArray := prog_2_method_12_code
def yX0_asleep : MethodName := ⟨RX0, "asleep", "(LSleepCalls$Now;I)I"⟩
abbrev cX0_wokenBy : ByteArray := prog_2_method_13_code
def yX0_wokenBy : MethodName := ⟨RX0, "wokenBy", "(II)I"⟩
abbrev cX0_wokenByAll : ByteArray := prog_2_method_14_code
def yX0_wokenByAll : MethodName := ⟨RX0, "wokenByAll", "(I)I"⟩
abbrev cX0_noisesOf : ByteArray := prog_2_method_15_code
def yX0_noisesOf : MethodName := ⟨RX0, "noisesOf", "(I)I"⟩
def RX1 : String := "SleepCalls$Now"
def TX1 : u_T := fun k => match k with
  | 0 => ("SleepCalls$Now", "day", "I", false)
  | 1 => ("SleepCalls$Now", "hour", "I", false)
  | 2 => ("SleepCalls$Now", "lapses", "I", false)
  | 3 => ("SleepCalls$Now", "tired", "[I", true)
  | 4 => ("SleepCalls$Now", "called", "[I", true)
  | _ => ("SleepCalls$Now", "slept", "[I", true)
def tyX1 : Nat → FieldType := fun k => match k with
  | 0 => .int
  | 1 => .int
  | 2 => .int
  | 3 => .array .int
  | 4 => .array .int
  | _ => .array .int
theorem nmX1 : ∀ a, a < 6 → ∀ b, b < 6 → a ≠ b → (TX1 a).2.1 ≠ (TX1 b).2.1 := by decide +kernel
theorem tyX1_ok : ∀ k, k < 6 → parseFieldDescriptor (TX1 k).2.2.1 = some (tyX1 k) := by decide +kernel
abbrev cX1_init : ByteArray := prog_3_method_1_code
def yX1_init : MethodName := ⟨RX1, "<init>", "()V"⟩
abbrev cX1_begin : ByteArray := prog_3_method_2_code
def yX1_begin : MethodName := ⟨RX1, "begin", "(LSleepCalls$City;)V"⟩
abbrev cX1_become : ByteArray := prog_3_method_3_code
def yX1_become : MethodName := ⟨RX1, "become", "(LSleepCalls$Now;)V"⟩
abbrev cX1_pass : ByteArray := prog_3_method_4_code
def yX1_pass : MethodName := ⟨RX1, "pass", "(LSleepCalls$City;I)V"⟩
def RX2 : String := "SleepCalls$Reader"
def TX2 : u_T := fun k => match k with
  | 0 => ("SleepCalls$Reader", "letters", "[C", true)
  | 1 => ("SleepCalls$Reader", "length", "I", false)
  | 2 => ("SleepCalls$Reader", "place", "I", false)
  | 3 => ("SleepCalls$Reader", "token", "I", false)
  | 4 => ("SleepCalls$Reader", "tokenPlace", "I", false)
  | 5 => ("SleepCalls$Reader", "value", "I", false)
  | _ => ("SleepCalls$Reader", "numbers", "[I", true)
def tyX2 : Nat → FieldType := fun k => match k with
  | 0 => .array .char
  | 1 => .int
  | 2 => .int
  | 3 => .int
  | 4 => .int
  | 5 => .int
  | _ => .array .int
theorem nmX2 : ∀ a, a < 7 → ∀ b, b < 7 → a ≠ b → (TX2 a).2.1 ≠ (TX2 b).2.1 := by decide +kernel
theorem tyX2_ok : ∀ k, k < 7 → parseFieldDescriptor (TX2 k).2.2.1 = some (tyX2 k) := by decide +kernel
abbrev cX2_init : ByteArray := prog_4_method_1_code
def yX2_init : MethodName := ⟨RX2, "<init>", "()V"⟩
abbrev cX2_readInto : ByteArray := prog_4_method_2_code
def yX2_readInto : MethodName := ⟨RX2, "readInto", "(LSleepCalls$City;)I"⟩
abbrev cX2_readItem : ByteArray := prog_4_method_3_code
def yX2_readItem : MethodName := ⟨RX2, "readItem", "(LSleepCalls$City;I)Z"⟩
abbrev cX2_howManyNumbers : ByteArray := prog_4_method_4_code
def yX2_howManyNumbers : MethodName := ⟨RX2, "howManyNumbers", "(I)I"⟩
abbrev cX2_mayStand : ByteArray := prog_4_method_5_code
def yX2_mayStand : MethodName := ⟨RX2, "mayStand", "(LSleepCalls$City;II)Z"⟩
abbrev cX2_mayStandForCitizen : ByteArray := prog_4_method_6_code
def yX2_mayStandForCitizen : MethodName := ⟨RX2, "mayStandForCitizen", "(I)Z"⟩
abbrev cX2_isWithin : ByteArray := prog_4_method_7_code
def yX2_isWithin : MethodName := ⟨RX2, "isWithin", "(II)Z"⟩
abbrev cX2_nextToken : ByteArray := prog_4_method_8_code
def yX2_nextToken : MethodName := ⟨RX2, "nextToken", "()V"⟩
abbrev cX2_readNumber : ByteArray := prog_4_method_9_code
def yX2_readNumber : MethodName := ⟨RX2, "readNumber", "()V"⟩
abbrev cX2_isDigit : ByteArray := prog_4_method_10_code
def yX2_isDigit : MethodName := ⟨RX2, "isDigit", "(C)Z"⟩
def RX3 : String := "SleepCalls"
def TX3 : u_T := fun k => match k with
  | 0 => ("SleepCalls", "text", "LSleepCalls$Reader;", true)
  | 1 => ("SleepCalls", "told", "LSleepCalls$City;", false)
  | 2 => ("SleepCalls", "spare", "LSleepCalls$City;", false)
  | 3 => ("SleepCalls", "present", "LSleepCalls$Now;", true)
  | 4 => ("SleepCalls", "trial", "LSleepCalls$Now;", true)
  | 5 => ("SleepCalls", "past", "[LSleepCalls$Now;", true)
  | 6 => ("SleepCalls", "latest", "I", false)
  | 7 => ("SleepCalls", "undoable", "I", false)
  | 8 => ("SleepCalls", "images", "[LSleepCalls$Now;", true)
  | 9 => ("SleepCalls", "kept", "[Z", true)
  | 10 => ("SleepCalls", "countedHour", "[I", true)
  | 11 => ("SleepCalls", "countedMany", "[I", true)
  | 12 => ("SleepCalls", "counts", "I", false)
  | 13 => ("SleepCalls", "calledUp", "[I", true)
  | 14 => ("SleepCalls", "tiredIn", "[[I", true)
  | 15 => ("SleepCalls", "wayCost", "[I", true)
  | _ => ("SleepCalls", "trace", "J", false)
def tyX3 : Nat → FieldType := fun k => match k with
  | 0 => .object "SleepCalls$Reader"
  | 1 => .object "SleepCalls$City"
  | 2 => .object "SleepCalls$City"
  | 3 => .object "SleepCalls$Now"
  | 4 => .object "SleepCalls$Now"
  | 5 => .array (.object "SleepCalls$Now")
  | 6 => .int
  | 7 => .int
  | 8 => .array (.object "SleepCalls$Now")
  | 9 => .array .boolean
  | 10 => .array .int
  | 11 => .array .int
  | 12 => .int
  | 13 => .array .int
  | 14 => .array (.array .int)
  | 15 => .array .int
  | _ => .long
theorem nmX3 : ∀ a, a < 17 → ∀ b, b < 17 → a ≠ b → (TX3 a).2.1 ≠ (TX3 b).2.1 := by decide +kernel
theorem tyX3_ok : ∀ k, k < 17 → parseFieldDescriptor (TX3 k).2.2.1 = some (tyX3 k) := by decide +kernel
abbrev cX3_init : ByteArray := prog_1_method_1_code
def yX3_init : MethodName := ⟨RX3, "<init>", "()V"⟩
abbrev cX3_type : ByteArray := prog_1_method_2_code
def yX3_type : MethodName := ⟨RX3, "type", "(I)I"⟩
abbrev cX3_clear : ByteArray := prog_1_method_3_code
def yX3_clear : MethodName := ⟨RX3, "clear", "()I"⟩
abbrev cX3_city : ByteArray := prog_1_method_4_code
def yX3_city : MethodName := ⟨RX3, "city", "()I"⟩
abbrev cX3_district : ByteArray := prog_1_method_5_code
def yX3_district : MethodName := ⟨RX3, "district", "(II)I"⟩
abbrev cX3_citizen : ByteArray := prog_1_method_6_code
def yX3_citizen : MethodName := ⟨RX3, "citizen", "(II)I"⟩
abbrev cX3_noise : ByteArray := prog_1_method_7_code
def yX3_noise : MethodName := ⟨RX3, "noise", "(II)I"⟩
abbrev cX3_now : ByteArray := prog_1_method_8_code
def yX3_now : MethodName := ⟨RX3, "now", "(I)I"⟩
abbrev cX3_sleptMost : ByteArray := prog_1_method_9_code
def yX3_sleptMost : MethodName := ⟨RX3, "sleptMost", "()I"⟩
abbrev cX3_sleptLeast : ByteArray := prog_1_method_10_code
def yX3_sleptLeast : MethodName := ⟨RX3, "sleptLeast", "()I"⟩
abbrev cX3_isDistrict : ByteArray := prog_1_method_11_code
def yX3_isDistrict : MethodName := ⟨RX3, "isDistrict", "(I)Z"⟩
abbrev cX3_isCitizen : ByteArray := prog_1_method_12_code
def yX3_isCitizen : MethodName := ⟨RX3, "isCitizen", "(I)Z"⟩
abbrev cX3_calls : ByteArray := prog_1_method_13_code
def yX3_calls : MethodName := ⟨RX3, "calls", "(II)I"⟩
abbrev cX3_hour : ByteArray := prog_1_method_14_code
def yX3_hour : MethodName := ⟨RX3, "hour", "()I"⟩
abbrev cX3_undo : ByteArray := prog_1_method_15_code
def yX3_undo : MethodName := ⟨RX3, "undo", "()I"⟩
abbrev cX3_remember : ByteArray := prog_1_method_16_code
def yX3_remember : MethodName := ⟨RX3, "remember", "()V"⟩
abbrev cX3_goBy : ByteArray := prog_1_method_17_code
def yX3_goBy : MethodName := ⟨RX3, "goBy", "(LSleepCalls$Now;I)I"⟩
abbrev cX3_lapses : ByteArray := prog_1_method_18_code
def yX3_lapses : MethodName := ⟨RX3, "lapses", "(I)Z"⟩
abbrev cX3_asleepIn : ByteArray := prog_1_method_19_code
def yX3_asleepIn : MethodName := ⟨RX3, "asleepIn", "(I)I"⟩
abbrev cX3_lapse : ByteArray := prog_1_method_20_code
def yX3_lapse : MethodName := ⟨RX3, "lapse", "()I"⟩
abbrev cX3_firstLapse : ByteArray := prog_1_method_21_code
def yX3_firstLapse : MethodName := ⟨RX3, "firstLapse", "(II)I"⟩
abbrev cX3_callUp : ByteArray := prog_1_method_22_code
def yX3_callUp : MethodName := ⟨RX3, "callUp", "(II)I"⟩
abbrev cX3_enoughInEach : ByteArray := prog_1_method_23_code
def yX3_enoughInEach : MethodName := ⟨RX3, "enoughInEach", "(I)Z"⟩
abbrev cX3_callUpFrom : ByteArray := prog_1_method_24_code
def yX3_callUpFrom : MethodName := ⟨RX3, "callUpFrom", "(II)Z"⟩
abbrev cX3_hourAhead : ByteArray := prog_1_method_25_code
def yX3_hourAhead : MethodName := ⟨RX3, "hourAhead", "(I)I"⟩
abbrev cX3_tire : ByteArray := prog_1_method_26_code
def yX3_tire : MethodName := ⟨RX3, "tire", "([II[I)V"⟩
abbrev cX3_has : ByteArray := prog_1_method_27_code
def yX3_has : MethodName := ⟨RX3, "has", "(II)Z"⟩
abbrev cX3_bears : ByteArray := prog_1_method_28_code
def yX3_bears : MethodName := ⟨RX3, "bears", "()I"⟩
abbrev cX3_cart : ByteArray := prog_1_method_29_code
def yX3_cart : MethodName := ⟨RX3, "cart", "(IIII)I"⟩
abbrev cX3_wakingCost : ByteArray := prog_1_method_30_code
def yX3_wakingCost : MethodName := ⟨RX3, "wakingCost", "(III)I"⟩
abbrev cX3_driveOn : ByteArray := prog_1_method_31_code
def yX3_driveOn : MethodName := ⟨RX3, "driveOn", "(III)V"⟩
abbrev cX3_drum : ByteArray := prog_1_method_32_code
def yX3_drum : MethodName := ⟨RX3, "drum", "(I)I"⟩
abbrev cX3_wants : ByteArray := prog_1_method_33_code
def yX3_wants : MethodName := ⟨RX3, "wants", "(I)I"⟩
abbrev cX3_counted : ByteArray := prog_1_method_34_code
def yX3_counted : MethodName := ⟨RX3, "counted", "(II)I"⟩
abbrev cX3_forget : ByteArray := prog_1_method_35_code
def yX3_forget : MethodName := ⟨RX3, "forget", "()I"⟩
abbrev cX3_sham : ByteArray := prog_1_method_36_code
def yX3_sham : MethodName := ⟨RX3, "sham", "()I"⟩
abbrev cX3_makesCountsSo : ByteArray := prog_1_method_37_code
def yX3_makesCountsSo : MethodName := ⟨RX3, "makesCountsSo", "(I)Z"⟩
abbrev cX3_lastCounted : ByteArray := prog_1_method_38_code
def yX3_lastCounted : MethodName := ⟨RX3, "lastCounted", "()I"⟩
abbrev cX3_isAsCounted : ByteArray := prog_1_method_39_code
def yX3_isAsCounted : MethodName := ⟨RX3, "isAsCounted", "(II)Z"⟩
abbrev cX3_odds : ByteArray := prog_1_method_40_code
def yX3_odds : MethodName := ⟨RX3, "odds", "(II)I"⟩
abbrev cX3_power : ByteArray := prog_1_method_41_code
def yX3_power : MethodName := ⟨RX3, "power", "(II)I"⟩
abbrev cX3_inLeastTerms : ByteArray := prog_1_method_42_code
def yX3_inLeastTerms : MethodName := ⟨RX3, "inLeastTerms", "(III)I"⟩
abbrev cX3_rate : ByteArray := prog_1_method_43_code
def yX3_rate : MethodName := ⟨RX3, "rate", "(II)I"⟩
abbrev cX3_asCitizen : ByteArray := prog_1_method_44_code
def yX3_asCitizen : MethodName := ⟨RX3, "asCitizen", "(I)I"⟩
abbrev cX3_asBaker : ByteArray := prog_1_method_45_code
def yX3_asBaker : MethodName := ⟨RX3, "asBaker", "(I)I"⟩
abbrev cX3_asDeputy : ByteArray := prog_1_method_46_code
def yX3_asDeputy : MethodName := ⟨RX3, "asDeputy", "(I)I"⟩
abbrev cX3_asGuard : ByteArray := prog_1_method_47_code
def yX3_asGuard : MethodName := ⟨RX3, "asGuard", "(I)I"⟩
abbrev cX3_asTwin : ByteArray := prog_1_method_48_code
def yX3_asTwin : MethodName := ⟨RX3, "asTwin", "(I)I"⟩
abbrev cX3_asVeteran : ByteArray := prog_1_method_49_code
def yX3_asVeteran : MethodName := ⟨RX3, "asVeteran", "(I)I"⟩
abbrev cX3_keep : ByteArray := prog_1_method_50_code
def yX3_keep : MethodName := ⟨RX3, "keep", "(I)I"⟩
abbrev cX3_back : ByteArray := prog_1_method_51_code
def yX3_back : MethodName := ⟨RX3, "back", "(I)I"⟩
abbrev cX3_count : ByteArray := prog_1_method_52_code
def yX3_count : MethodName := ⟨RX3, "count", "(I)I"⟩
abbrev cX3_trace : ByteArray := prog_1_method_53_code
def yX3_trace : MethodName := ⟨RX3, "trace", "()J"⟩
def RX4 : String := "SleepCallsModel"
def TX4 : u_T := fun k => match k with
  | 0 => ("SleepCallsModel", "trace", "J", false)
  | 1 => ("SleepCallsModel", "text", "[I", true)
  | 2 => ("SleepCallsModel", "typed", "I", false)
  | 3 => ("SleepCallsModel", "told", "[I", true)
  | 4 => ("SleepCallsModel", "draft", "[I", true)
  | 5 => ("SleepCallsModel", "s", "[I", true)
  | 6 => ("SleepCallsModel", "past", "[I", true)
  | 7 => ("SleepCallsModel", "known", "I", false)
  | 8 => ("SleepCallsModel", "images", "[I", true)
  | 9 => ("SleepCallsModel", "kept", "[Z", true)
  | 10 => ("SleepCallsModel", "counts", "[I", true)
  | 11 => ("SleepCallsModel", "counted", "I", false)
  | 12 => ("SleepCallsModel", "at", "I", false)
  | 13 => ("SleepCallsModel", "sort", "I", false)
  | 14 => ("SleepCallsModel", "start", "I", false)
  | 15 => ("SleepCallsModel", "value", "I", false)
  | 16 => ("SleepCallsModel", "heard", "I", false)
  | 17 => ("SleepCallsModel", "never", "I", false)
  | 18 => ("SleepCallsModel", "sham", "I", false)
  | 19 => ("SleepCallsModel", "drumIn", "I", false)
  | 20 => ("SleepCallsModel", "drumLoud", "I", false)
  | 21 => ("SleepCallsModel", "held", "[I", true)
  | 22 => ("SleepCallsModel", "ahead", "[I", true)
  | 23 => ("SleepCallsModel", "tried", "[I", true)
  | 24 => ("SleepCallsModel", "best", "[I", true)
  | _ => ("SleepCallsModel", "fewest", "I", false)
def tyX4 : Nat → FieldType := fun k => match k with
  | 0 => .long
  | 1 => .array .int
  | 2 => .int
  | 3 => .array .int
  | 4 => .array .int
  | 5 => .array .int
  | 6 => .array .int
  | 7 => .int
  | 8 => .array .int
  | 9 => .array .boolean
  | 10 => .array .int
  | 11 => .int
  | 12 => .int
  | 13 => .int
  | 14 => .int
  | 15 => .int
  | 16 => .int
  | 17 => .int
  | 18 => .int
  | 19 => .int
  | 20 => .int
  | 21 => .array .int
  | 22 => .array .int
  | 23 => .array .int
  | 24 => .array .int
  | _ => .int
theorem nmX4 : ∀ a, a < 26 → ∀ b, b < 26 → a ≠ b → (TX4 a).2.1 ≠ (TX4 b).2.1 := by decide +kernel
theorem tyX4_ok : ∀ k, k < 26 → parseFieldDescriptor (TX4 k).2.2.1 = some (tyX4 k) := by decide +kernel
abbrev cX4_init : ByteArray := prog_6_method_1_code
def yX4_init : MethodName := ⟨RX4, "<init>", "()V"⟩
abbrev cX4_in : ByteArray := prog_6_method_3_code
def yX4_in : MethodName := ⟨RX4, "in", "(III)Z"⟩
abbrev cX4_isCitizen : ByteArray := prog_6_method_4_code
def yX4_isCitizen : MethodName := ⟨RX4, "isCitizen", "(I)Z"⟩
abbrev cX4_isDistrict : ByteArray := prog_6_method_5_code
def yX4_isDistrict : MethodName := ⟨RX4, "isDistrict", "(I)Z"⟩
abbrev cX4_ones : ByteArray := prog_6_method_6_code
def yX4_ones : MethodName := ⟨RX4, "ones", "(I)I"⟩
abbrev cX4_type : ByteArray := prog_6_method_7_code
def yX4_type : MethodName := ⟨RX4, "type", "(I)I"⟩
abbrev cX4_clear : ByteArray := prog_6_method_8_code
def yX4_clear : MethodName := ⟨RX4, "clear", "()I"⟩
abbrev cX4_letterAt : ByteArray := prog_6_method_9_code
def yX4_letterAt : MethodName := ⟨RX4, "letterAt", "(I)I"⟩
abbrev cX4_isDigit : ByteArray := prog_6_method_10_code
def yX4_isDigit : MethodName := ⟨RX4, "isDigit", "(I)Z"⟩
abbrev cX4_isItem : ByteArray := prog_6_method_11_code
def yX4_isItem : MethodName := ⟨RX4, "isItem", "(I)Z"⟩
abbrev cX4_token : ByteArray := prog_6_method_12_code
def yX4_token : MethodName := ⟨RX4, "token", "()V"⟩
abbrev cX4_number : ByteArray := prog_6_method_13_code
def yX4_number : MethodName := ⟨RX4, "number", "(III)Z"⟩
abbrev cX4_readsDistricts : ByteArray := prog_6_method_14_code
def yX4_readsDistricts : MethodName := ⟨RX4, "readsDistricts", "()Z"⟩
abbrev cX4_readsQuota : ByteArray := prog_6_method_15_code
def yX4_readsQuota : MethodName := ⟨RX4, "readsQuota", "()Z"⟩
abbrev cX4_readsRoad : ByteArray := prog_6_method_16_code
def yX4_readsRoad : MethodName := ⟨RX4, "readsRoad", "()Z"⟩
abbrev cX4_readsBeds : ByteArray := prog_6_method_17_code
def yX4_readsBeds : MethodName := ⟨RX4, "readsBeds", "()Z"⟩
abbrev cX4_readsCitizen : ByteArray := prog_6_method_18_code
def yX4_readsCitizen : MethodName := ⟨RX4, "readsCitizen", "()Z"⟩
abbrev cX4_readsNoise : ByteArray := prog_6_method_19_code
def yX4_readsNoise : MethodName := ⟨RX4, "readsNoise", "()Z"⟩
abbrev cX4_readsItem : ByteArray := prog_6_method_20_code
def yX4_readsItem : MethodName := ⟨RX4, "readsItem", "()Z"⟩
abbrev cX4_reads : ByteArray := prog_6_method_21_code
def yX4_reads : MethodName := ⟨RX4, "reads", "()Z"⟩
abbrev cX4_begins : ByteArray := prog_6_method_22_code
def yX4_begins : MethodName := ⟨RX4, "begins", "()V"⟩
abbrev cX4_tells : ByteArray := prog_6_method_23_code
def yX4_tells : MethodName := ⟨RX4, "tells", "()V"⟩
abbrev cX4_city : ByteArray := prog_6_method_24_code
def yX4_city : MethodName := ⟨RX4, "city", "()I"⟩
abbrev cX4_district : ByteArray := prog_6_method_25_code
def yX4_district : MethodName := ⟨RX4, "district", "(II)I"⟩
abbrev cX4_citizen : ByteArray := prog_6_method_26_code
def yX4_citizen : MethodName := ⟨RX4, "citizen", "(II)I"⟩
abbrev cX4_noise : ByteArray := prog_6_method_27_code
def yX4_noise : MethodName := ⟨RX4, "noise", "(II)I"⟩
abbrev cX4_most : ByteArray := prog_6_method_28_code
def yX4_most : MethodName := ⟨RX4, "most", "(I)I"⟩
abbrev cX4_now : ByteArray := prog_6_method_29_code
def yX4_now : MethodName := ⟨RX4, "now", "(I)I"⟩
abbrev cX4_keeps : ByteArray := prog_6_method_30_code
def yX4_keeps : MethodName := ⟨RX4, "keeps", "()V"⟩
abbrev cX4_calls : ByteArray := prog_6_method_31_code
def yX4_calls : MethodName := ⟨RX4, "calls", "(II)I"⟩
abbrev cX4_could : ByteArray := prog_6_method_32_code
def yX4_could : MethodName := ⟨RX4, "could", "(IZ)Z"⟩
abbrev cX4_loudest : ByteArray := prog_6_method_33_code
def yX4_loudest : MethodName := ⟨RX4, "loudest", "(I)I"⟩
abbrev cX4_calledNow : ByteArray := prog_6_method_34_code
def yX4_calledNow : MethodName := ⟨RX4, "calledNow", "()I"⟩
abbrev cX4_asleep : ByteArray := prog_6_method_35_code
def yX4_asleep : MethodName := ⟨RX4, "asleep", "(I)I"⟩
abbrev cX4_goes : ByteArray := prog_6_method_36_code
def yX4_goes : MethodName := ⟨RX4, "goes", "(I)Z"⟩
abbrev cX4_hour : ByteArray := prog_6_method_37_code
def yX4_hour : MethodName := ⟨RX4, "hour", "()I"⟩
abbrev cX4_undo : ByteArray := prog_6_method_38_code
def yX4_undo : MethodName := ⟨RX4, "undo", "()I"⟩
abbrev cX4_holds : ByteArray := prog_6_method_39_code
def yX4_holds : MethodName := ⟨RX4, "holds", "()V"⟩
abbrev cX4_lets : ByteArray := prog_6_method_40_code
def yX4_lets : MethodName := ⟨RX4, "lets", "()V"⟩
abbrev cX4_asleepIn : ByteArray := prog_6_method_41_code
def yX4_asleepIn : MethodName := ⟨RX4, "asleepIn", "(I)I"⟩
abbrev cX4_lapseIn : ByteArray := prog_6_method_42_code
def yX4_lapseIn : MethodName := ⟨RX4, "lapseIn", "(I)I"⟩
abbrev cX4_lapse : ByteArray := prog_6_method_43_code
def yX4_lapse : MethodName := ⟨RX4, "lapse", "()I"⟩
abbrev cX4_puts : ByteArray := prog_6_method_44_code
def yX4_puts : MethodName := ⟨RX4, "puts", "(I)V"⟩
abbrev cX4_takes : ByteArray := prog_6_method_45_code
def yX4_takes : MethodName := ⟨RX4, "takes", "(I)V"⟩
abbrev cX4_seeks : ByteArray := prog_6_method_46_code
def yX4_seeks : MethodName := ⟨RX4, "seeks", "(I)V"⟩
abbrev cX4_callUp : ByteArray := prog_6_method_47_code
def yX4_callUp : MethodName := ⟨RX4, "callUp", "(II)I"⟩
abbrev cX4_bears : ByteArray := prog_6_method_48_code
def yX4_bears : MethodName := ⟨RX4, "bears", "()I"⟩
abbrev cX4_cart : ByteArray := prog_6_method_49_code
def yX4_cart : MethodName := ⟨RX4, "cart", "(IIII)I"⟩
abbrev cX4_far : ByteArray := prog_6_method_50_code
def yX4_far : MethodName := ⟨RX4, "far", "(III)I"⟩
abbrev cX4_drum : ByteArray := prog_6_method_51_code
def yX4_drum : MethodName := ⟨RX4, "drum", "(I)I"⟩
abbrev cX4_wants : ByteArray := prog_6_method_52_code
def yX4_wants : MethodName := ⟨RX4, "wants", "(I)I"⟩
abbrev cX4_counted : ByteArray := prog_6_method_53_code
def yX4_counted : MethodName := ⟨RX4, "counted", "(II)I"⟩
abbrev cX4_forget : ByteArray := prog_6_method_54_code
def yX4_forget : MethodName := ⟨RX4, "forget", "()I"⟩
abbrev cX4_isSo : ByteArray := prog_6_method_55_code
def yX4_isSo : MethodName := ⟨RX4, "isSo", "()Z"⟩
abbrev cX4_sham : ByteArray := prog_6_method_56_code
def yX4_sham : MethodName := ⟨RX4, "sham", "()I"⟩
abbrev cX4_odds : ByteArray := prog_6_method_57_code
def yX4_odds : MethodName := ⟨RX4, "odds", "(II)I"⟩
abbrev cX4_rate : ByteArray := prog_6_method_58_code
def yX4_rate : MethodName := ⟨RX4, "rate", "(II)I"⟩
abbrev cX4_keep : ByteArray := prog_6_method_59_code
def yX4_keep : MethodName := ⟨RX4, "keep", "(I)I"⟩
abbrev cX4_back : ByteArray := prog_6_method_60_code
def yX4_back : MethodName := ⟨RX4, "back", "(I)I"⟩
abbrev cX4_count : ByteArray := prog_6_method_61_code
def yX4_count : MethodName := ⟨RX4, "count", "(I)I"⟩
abbrev cX4_trace : ByteArray := prog_6_method_62_code
def yX4_trace : MethodName := ⟨RX4, "trace", "()J"⟩
def RJ6 : String := "java/lang/Integer"
def TJ6 : u_T := fun k => match k with
  | _ => ("", "", "", false)
def tyJ6 : Nat → FieldType := fun k => match k with
  | _ => .int
theorem nmJ6 : ∀ a, a < 0 → ∀ b, b < 0 → a ≠ b → (TJ6 a).2.1 ≠ (TJ6 b).2.1 := by decide +kernel
theorem tyJ6_ok : ∀ k, k < 0 → parseFieldDescriptor (TJ6 k).2.2.1 = some (tyJ6 k) := by decide +kernel
abbrev cJ6_bitCount_0f7a4 : ByteArray := prog_7_method_49_code
def yJ6_bitCount_0f7a4 : MethodName := ⟨RJ6, "bitCount", "(I)I"⟩
def RJ9 : String := "java/lang/Math"
def TJ9 : u_T := fun k => match k with
  | _ => ("", "", "", false)
def tyJ9 : Nat → FieldType := fun k => match k with
  | _ => .int
theorem nmJ9 : ∀ a, a < 0 → ∀ b, b < 0 → a ≠ b → (TJ9 a).2.1 ≠ (TJ9 b).2.1 := by decide +kernel
theorem tyJ9_ok : ∀ k, k < 0 → parseFieldDescriptor (TJ9 k).2.2.1 = some (tyJ9 k) := by decide +kernel
abbrev cJ9_max_7cf53 : ByteArray := prog_8_method_65_code
def yJ9_max_7cf53 : MethodName := ⟨RJ9, "max", "(II)I"⟩
abbrev cJ9_min_7cf53 : ByteArray := prog_8_method_69_code
def yJ9_min_7cf53 : MethodName := ⟨RJ9, "min", "(II)I"⟩
def RJ10 : String := "java/lang/System"
def TJ10 : u_T := fun k => match k with
  | _ => ("", "", "", false)
def tyJ10 : Nat → FieldType := fun k => match k with
  | _ => .int
theorem nmJ10 : ∀ a, a < 0 → ∀ b, b < 0 → a ≠ b → (TJ10 a).2.1 ≠ (TJ10 b).2.1 := by decide +kernel
theorem tyJ10_ok : ∀ k, k < 0 → parseFieldDescriptor (TJ10 k).2.2.1 = some (tyJ10 k) := by decide +kernel
end
section
/-! the pure heap: rows of ints, of references, of longs, by the place of the cell and its slot; cells are made in one fixed order -/
abbrev HM : Type := Nat → Nat → Int32
abbrev HR : Type := Nat → Nat → Option Nat
abbrev HL : Type := Nat → Nat → Int64
abbrev HP : Type := Nat × HM × HR × HL
def lay_city : List (Nat × Nat) := [(0, 16), (6, 4), (6, 4), (6, 6), (6, 6), (6, 6), (6, 6), (6, 6), (6, 6), (6, 6), (6, 4), (6, 8)]
def lay_now : List (Nat × Nat) := [(1, 6), (6, 6), (6, 6), (6, 6)]
def lay : List (Nat × Nat) := [(3, 17), (2, 7), (5, 200), (6, 4)] ++ (lay_city ++ (lay_city ++ (lay_now ++ (lay_now ++ ([(8, 10), (8, 2), (7, 2), (6, 6), (6, 6), (6, 3), (9, 4), (6, 6), (6, 6), (6, 6), (6, 6), (6, 4)] ++ ((List.replicate 12 lay_now).flatten ++ [(4, 26), (6, 200), (6, 56), (6, 56), (6, 21), (6, 210), (6, 42), (7, 2), (6, 6), (6, 21), (6, 63), (6, 3), (6, 3)]))))))
def shp (k : Nat) : Nat × Nat := lay.getD k (99, 0)
def cnm (t : Nat) : String := match t with
  | 0 => RX0
  | 1 => RX1
  | 2 => RX2
  | 3 => RX3
  | _ => RX4
def ctb (t : Nat) : u_T := match t with
  | 0 => TX0
  | 1 => TX1
  | 2 => TX2
  | 3 => TX3
  | _ => TX4
def cty (t : Nat) : Nat → FieldType := match t with
  | 0 => tyX0
  | 1 => tyX1
  | 2 => tyX2
  | 3 => tyX3
  | _ => tyX4
def cln (t : Nat) : Nat := match t with
  | 0 => 16
  | 1 => 6
  | 2 => 7
  | 3 => 17
  | _ => 26
def aty (t : Nat) : FieldType := match t with
  | 5 => .char
  | 6 => .int
  | 7 => .boolean
  | 8 => .object RX1
  | _ => .array .int
/-- a pure value as the machine has it; retAddr stands for a reference that is no cell of ours -/
def rvB (B : Nat) (v : Value) : Value := match v with
  | .ref a => .ref (B + a)
  | .retAddr a => .ref a
  | v => v
theorem rvB_cat (B : Nat) (v : Value) : (rvB B v).category = v.category := by cases v <;> rfl
def fvl (B : Nat) (M : HM) (Rf : HR) (Lg : HL) (t k j : Nat) : Value := match cty t j with
  | .int => .int (M k j)
  | .boolean => .int (M k j)
  | .long => .long (Lg k j)
  | _ => va_rf ((Rf k j).map (B + ·))
def wE (B : Nat) (D : va_G) (cA : Nat → ClassId) (M : HM) (Rf : HR) (Lg : HL) (k : Nat) (H : Heap) : Prop :=
  if (shp k).1 < 5 then t_OB (B + k) (D.1 (shp k).1) (cln (shp k).1) (D.2 (shp k).1) H (fun j => fvl B M Rf Lg (shp k).1 k j)
  else if (shp k).1 < 8 then H[B + k]? = some (arrV (cA (shp k).1) (shp k).2 (fun j => .int (M k j)))
  else H[B + k]? = some (arrV (cA (shp k).1) (shp k).2 (fun j => va_rf ((Rf k j).map (B + ·))))
theorem wE_obj {B : Nat} {D : va_G} {cA : Nat → ClassId} {M : HM} {Rf : HR} {Lg : HL} {k : Nat} {H : Heap} {t N : Nat} (hs : shp k = (t, N)) (ht : t < 5) : wE B D cA M Rf Lg k H ↔ t_OB (B + k) (D.1 t) (cln t) (D.2 t) H (fun j => fvl B M Rf Lg t k j) := by
  unfold wE; rw [hs]; simp only [ht, if_true]
theorem wE_int {B : Nat} {D : va_G} {cA : Nat → ClassId} {M : HM} {Rf : HR} {Lg : HL} {k : Nat} {H : Heap} {t N : Nat} (hs : shp k = (t, N)) (ht : 5 ≤ t) (ht2 : t < 8) : wE B D cA M Rf Lg k H ↔ H[B + k]? = some (arrV (cA t) N (fun j => .int (M k j))) := by
  unfold wE; rw [hs]; simp only [ht2, if_true, if_neg (Nat.not_lt.mpr ht)]
theorem wE_ref {B : Nat} {D : va_G} {cA : Nat → ClassId} {M : HM} {Rf : HR} {Lg : HL} {k : Nat} {H : Heap} {t N : Nat} (hs : shp k = (t, N)) (ht : 8 ≤ t) : wE B D cA M Rf Lg k H ↔ H[B + k]? = some (arrV (cA t) N (fun j => va_rf ((Rf k j).map (B + ·)))) := by
  unfold wE; rw [hs]; simp only [if_neg (Nat.not_lt.mpr ht), if_neg (show ¬ t < 5 by omega)]
theorem wE.kept {B : Nat} {D : va_G} {cA : Nat → ClassId} {M M' : HM} {Rf Rf' : HR} {Lg Lg' : HL} {k : Nat} {H H1 : Heap} (h : wE B D cA M Rf Lg k H) (hq : H1[B + k]? = H[B + k]?) (h1 : M' k = M k) (h2 : Rf' k = Rf k) (h3 : Lg' k = Lg k) : wE B D cA M' Rf' Lg' k H1 := by
  have e : (fun j => fvl B M' Rf' Lg' (shp k).1 k j) = (fun j => fvl B M Rf Lg (shp k).1 k j) := by
    funext j; simp only [fvl, h1, h2, h3]
  unfold wE at h ⊢
  rw [e, h1, h2, hq]
  by_cases c : (shp k).1 < 5
  · rw [if_pos c] at h ⊢
    exact t_OB.kept h hq
  · rw [if_neg c] at h ⊢
    exact h
def PW (B : Nat) (D : va_G) (cA : Nat → ClassId) (h : HP) (H : Heap) : Prop := H.size = B + h.1 ∧ ∀ k, k < h.1 → wE B D cA h.2.1 h.2.2.1 h.2.2.2 k H
theorem PW.upd {B : Nat} {D : va_G} {cA : Nat → ClassId} {n : Nat} {M M' : HM} {Rf Rf' : HR} {Lg Lg' : HL} {k : Nat} {H H1 : Heap} (hP : PW B D cA (n, M, Rf, Lg) H) (z : H1.size = H.size) (oq : ∀ q : Nat, q ≠ B + k → H1[q]? = H[q]?) (hM : ∀ x, x ≠ k → M' x = M x) (hR : ∀ x, x ≠ k → Rf' x = Rf x) (hL : ∀ x, x ≠ k → Lg' x = Lg x) (hw : wE B D cA M' Rf' Lg' k H1) : PW B D cA (n, M', Rf', Lg') H1 := by
  refine ⟨by rw [z]; exact hP.1, fun x hx => ?_⟩
  by_cases e : x = k
  · subst e; exact hw
  · exact (hP.2 x hx).kept (oq _ (by omega)) (hM x e) (hR x e) (hL x e)
theorem PW.grow {B : Nat} {D : va_G} {cA : Nat → ClassId} {n : Nat} {M : HM} {Rf : HR} {Lg : HL} {H H1 : Heap} (hP : PW B D cA (n, M, Rf, Lg) H) (z : H1.size = H.size + 1) (oq : ∀ q : Nat, q < H.size → H1[q]? = H[q]?) (hw : wE B D cA M Rf Lg n H1) : PW B D cA (n + 1, M, Rf, Lg) H1 := by
  have hs : H.size = B + n := hP.1
  refine ⟨by show H1.size = B + (n + 1); omega, fun x hx => ?_⟩
  have hx' : x < n + 1 := hx
  by_cases e : x = n
  · subst e; exact hw
  · have hlt : x < n := by omega
    exact (hP.2 x hlt).kept (oq _ (by omega)) rfl rfl rfl
def st2 {α : Type} (M : Nat → Nat → α) (k j : Nat) (v : α) : Nat → Nat → α := fun x y => if x = k ∧ y = j then v else M x y
theorem st2_ne {α : Type} (M : Nat → Nat → α) {k : Nat} (j : Nat) (v : α) {x : Nat} (h : x ≠ k) : st2 M k j v x = M x := by
  funext y; simp [st2, h]
theorem st2_row {α : Type} (M : Nat → Nat → α) (k j : Nat) (v : α) (y : Nat) : st2 M k j v k y = if y = j then v else M k y := by
  simp [st2]
def nestW : List Cond := [.methodLinkNest RX3 11 yX2_init RX3, .methodLinkNest RX3 18 yX0_init RX3, .methodLinkNest RX3 28 yX1_init RX3, .methodLinkNest RX0 69 yX3_has RX3, .methodLinkNest RX1 42 yX3_tire RX3]
theorem nestW_in : ∀ w ∈ nestW, w ∈ lw_tbl := by decide +kernel
theorem nestW_warm {s U : State} (hW : s.WarmedH U.vm) : ∀ w ∈ nestW, va_Nw w s → va_Nw w U := by
  intro w hw h
  simp only [nestW, List.mem_cons, List.not_mem_nil, or_false] at hw
  rcases hw with rfl | rfl | rfl | rfl | rfl <;> exact va_Nw.warmM hW h
theorem nestW_same {s U : State} (e : s.vm = U.vm) : ∀ w ∈ nestW, va_Nw w s → va_Nw w U := by
  intro w hw h
  simp only [nestW, List.mem_cons, List.not_mem_nil, or_false] at hw
  rcases hw with rfl | rfl | rfl | rfl | rfl <;> exact va_Nw.same rfl e h
def AOA (U : State) : Prop := (Cond.arrayOver (.array .int)).before #[] U = true
theorem AOA.moved {u U : State} (hvm : u.vm.Alike U.vm) (h : AOA u) : AOA U := by
  unfold AOA Cond.before Cond.holds at h ⊢
  simp only [Cond.value, beq_iff_eq] at h ⊢
  cases hc : u.vm.findClass (FieldType.array .int).toString with
  | none => simp [hc] at h
  | some comp =>
    simp only [hc, Option.bind_some, Option.bind_eq_some_iff, Option.map_eq_some_iff] at h
    obtain ⟨c, hi, k, hk, hb⟩ := h
    obtain ⟨k', hk', he⟩ := hvm.2.2 _ _ hk
    have hbe : U.vm.bare = u.vm.bare := by first | exact hvm.bare_eq | exact hvm.bare_eq.symm
    have hi' := (va_idx_bare U.vm comp).symm.trans ((by rw [hbe] : (U.vm.bare.classes.findIdx? fun (x : Class) => match x.kind with | .array component _ => component == comp | _ => false) = (u.vm.bare.classes.findIdx? fun (x : Class) => match x.kind with | .array component _ => component == comp | _ => false)).trans ((va_idx_bare u.vm comp).trans hi))
    have f1 : U.vm.findClass (FieldType.array .int).toString = some comp := by rw [hvm.findClass]; exact hc
    have hkd : k'.kind = k.kind := by rw [he]
    simp only [f1, Option.bind_some, Option.bind_eq_some_iff, Option.map_eq_some_iff]
    refine ⟨c, hi', k', hk', ?_⟩
    rw [hkd, hvm.findClass]
    exact hb
/-- what the tables say of our classes and arrays -/
def KnAll (U : State) (D : va_G) (cA : Nat → ClassId) : Prop := (∀ t, t < 5 → u_Kn U (cnm t) (ctb t) (cln t) (D.1 t) (D.2 t)) ∧ (∀ t, 5 ≤ t → t < 10 → ArrOfT U (cA t) (aty t) ∧ va_RA U (cA t) (aty t)) ∧ (∀ w ∈ nestW, va_Nw w U) ∧ va_AO RX1 U ∧ AOA U
theorem KnAll.warm {u U : State} {D : va_G} {cA : Nat → ClassId} (hW : u.WarmedH U.vm) (h : KnAll u D cA) : KnAll U D cA := ⟨fun t ht => u_Kn_moved hW.alike (h.1 t ht), fun t h1 h2 => ⟨arrOfT_moved hW.alike (h.2.1 t h1 h2).1, (h.2.1 t h1 h2).2.moved hW.alike⟩, fun w hw => nestW_warm hW w hw (h.2.2.1 w hw), va_AO.moved hW.alike h.2.2.2.1, AOA.moved hW.alike h.2.2.2.2⟩
theorem KnAll.same {u U : State} {D : va_G} {cA : Nat → ClassId} (e : u.vm = U.vm) (h : KnAll u D cA) : KnAll U D cA := by
  have hv : u.vm.Alike U.vm := by rw [e]; exact Vm.Alike.refl _
  exact ⟨fun t ht => u_Kn_moved hv (h.1 t ht), fun t h1 h2 => ⟨arrOfT_moved hv (h.2.1 t h1 h2).1, (h.2.1 t h1 h2).2.moved hv⟩, fun w hw => nestW_same e w hw (h.2.2.1 w hw), va_AO.moved hv h.2.2.2.1, AOA.moved hv h.2.2.2.2⟩
def gtbl : List Cond := lw_tbl.filter goodWord
theorem gt_of {w : Cond} (h : w ∈ lw_tbl) (h2 : goodWord w = true) : w ∈ gtbl := List.mem_filter.mpr ⟨h, h2⟩
theorem gt_t {w : Cond} (i : Nat) (h : tables_1[i]? = some w) (h2 : goodWord w = true) : w ∈ gtbl := gt_of (List.mem_append_right _ (List.mem_of_getElem? h)) h2
theorem gt_s {w : Cond} (i : Nat) (h : (k2_sels lw_privs)[i]? = some w) (h2 : goodWord w = true) : w ∈ gtbl := gt_of (List.mem_append_left _ (List.mem_of_getElem? h)) h2
theorem gt_good {x : Cond} (hx : x ∈ gtbl) : GoodIn (x :: gtbl) (x :: gtbl) := by
  intro w hw
  have h1 : w ∈ gtbl := by
    rcases List.mem_cons.mp hw with rfl | h
    · exact hx
    · exact h
  exact ⟨hw, good_of_word (List.mem_filter.mp h1).2⟩
theorem gt_in {x : Cond} (hx : x ∈ gtbl) {w : Cond} (hw : w ∈ x :: gtbl) : w ∈ gtbl ∧ ((w.onTables && w.keeps) = true ∨ ∃ ty, w = .arrayClass ty) := by
  have h1 : w ∈ gtbl := by
    rcases List.mem_cons.mp hw with rfl | h
    · exact hx
    · exact h
  exact ⟨h1, good_of_word (List.mem_filter.mp h1).2⟩
theorem in_0 : ∀ w ∈ u_ws RX0 TX0 16, w ∈ gtbl := by decide +kernel
theorem in_1 : ∀ w ∈ u_ws RX1 TX1 6, w ∈ gtbl := by decide +kernel
theorem in_2 : ∀ w ∈ u_ws RX2 TX2 7, w ∈ gtbl := by decide +kernel
theorem in_3 : ∀ w ∈ u_ws RX3 TX3 17, w ∈ gtbl := by decide +kernel
theorem in_4 : ∀ w ∈ u_ws RX4 TX4 26, w ∈ gtbl := by decide +kernel
theorem in_all (t : Nat) (h : t < 5) : ∀ w ∈ u_ws (cnm t) (ctb t) (cln t), w ∈ gtbl := by
  match t, h with
  | 0, _ => exact in_0
  | 1, _ => exact in_1
  | 2, _ => exact in_2
  | 3, _ => exact in_3
  | 4, _ => exact in_4
theorem nm_all (t : Nat) (h : t < 5) : ∀ a, a < cln t → ∀ b, b < cln t → a ≠ b → (ctb t a).2.1 ≠ (ctb t b).2.1 := by
  match t, h with
  | 0, _ => exact nmX0
  | 1, _ => exact nmX1
  | 2, _ => exact nmX2
  | 3, _ => exact nmX3
  | 4, _ => exact nmX4
theorem ty_all (t : Nat) (h : t < 5) : ∀ k, k < cln t → parseFieldDescriptor (ctb t k).2.2.1 = some (cty t k) := by
  match t, h with
  | 0, _ => exact tyX0_ok
  | 1, _ => exact tyX1_ok
  | 2, _ => exact tyX2_ok
  | 3, _ => exact tyX3_ok
  | 4, _ => exact tyX4_ok
/-! the locals -/
def lget (ls : List (Option Value)) (i : Nat) : Option Value := match ls, i with
  | [], _ => none
  | x :: _, 0 => x
  | _ :: t, i + 1 => lget t i
theorem lget_eq (ls : List (Option Value)) (i : Nat) (v : Value) (h : lget ls i = some v) : ls[i]? = some (some v) := by
  induction ls generalizing i with
  | nil => simp [lget] at h
  | cons x t ih =>
    cases i with
    | zero => simp [lget] at h; simp [h]
    | succ i => simp only [lget] at h; simpa using ih i h
def lsH (B : Nat) (la : Array Slot) (ls : List (Option Value)) : Prop := la.size = ls.length ∧ lv_wf la ∧ ∀ (i : Nat) (v : Value), ls[i]? = some (some v) → la[i]? = some (Slot.val (rvB B v)) ∧ v.category = 1
theorem lsH.at {B : Nat} {la : Array Slot} {ls : List (Option Value)} (h : lsH B la ls) {i : Nat} {v : Value} (hi : lget ls i = some v) : la[i]? = some (.val (rvB B v)) := (h.2.2 i v (lget_eq ls i v hi)).1
def lvl (B : Nat) (ls : List (Option Value)) : List (Nat × Value) := (List.range ls.length).filterMap (fun i => (ls[i]?.join).map (fun v => (i, rvB B v)))
theorem lvl_mem {B : Nat} {ls : List (Option Value)} {q : Nat × Value} : q ∈ lvl B ls ↔ ∃ v, ls[q.1]? = some (some v) ∧ q.2 = rvB B v := by
  unfold lvl
  rw [List.mem_filterMap]
  constructor
  · rintro ⟨i, -, hi⟩
    cases e : ls[i]? with
    | none => rw [e] at hi; simp at hi
    | some o =>
      cases o with
      | none => rw [e] at hi; simp at hi
      | some v =>
        rw [e] at hi
        simp at hi
        subst hi
        exact ⟨v, e, rfl⟩
  · rintro ⟨v, h1, h2⟩
    refine ⟨q.1, List.mem_range.mpr (List.getElem?_eq_some_iff.mp h1).1, ?_⟩
    rw [h1]
    simp [← h2]
theorem lsH.has {B : Nat} {la : Array Slot} {ls : List (Option Value)} (h : lsH B la ls) : lv_has la ls.length (lvl B ls) := by
  refine ⟨h.1, h.2.1, fun q hq => ?_⟩
  obtain ⟨v, h1, h2⟩ := lvl_mem.mp hq
  rw [h2]
  exact (h.2.2 _ v h1).1
theorem lsH.of {B : Nat} {la la' : Array Slot} {ls : List (Option Value)} (h : lsH B la ls) {i : Nat} {v : Value} (hi : i < ls.length) (hv : v.category = 1) (h' : lv_has la' ls.length ((i, rvB B v) :: (lvl B ls).filter (fun q => !(q.1 == i) && !(q.1 + 1 == i && q.2.category == 2)))) : lsH B la' (ls.set i (some v)) := by
  refine ⟨by rw [List.length_set]; exact h'.1, h'.2.1, fun j w hj => ?_⟩
  by_cases e : j = i
  · subst e
    rw [List.getElem?_set_self hi] at hj
    cases hj
    exact ⟨h'.2.2 _ List.mem_cons_self, hv⟩
  · rw [List.getElem?_set_ne (Ne.symm e)] at hj
    obtain ⟨g1, g2⟩ := h.2.2 j w hj
    refine ⟨h'.2.2 (j, rvB B w) (List.mem_cons_of_mem _ (List.mem_filter.mpr ⟨lvl_mem.mpr ⟨w, hj, rfl⟩, ?_⟩)), g2⟩
    simp [e, rvB_cat, g2]
theorem lsH.entry (B : Nat) (As : List Value) (n : Nat) (hn : As.length ≤ n) (hc : ∀ v ∈ As, v.category = 1) : lsH B ((lg_sl (As.map (rvB B)) ++ List.replicate (n - (lg_sl (As.map (rvB B))).length) Slot.unset).toArray) (As.map some ++ List.replicate (n - As.length) none) := by
  have hc' : ∀ v ∈ As.map (rvB B), v.category = 1 := by
    intro v hv
    obtain ⟨w, hw, rfl⟩ := List.mem_map.mp hv
    rw [rvB_cat]; exact hc w hw
  have e : lg_sl (As.map (rvB B)) = (As.map (rvB B)).map Slot.val := by
    generalize As.map (rvB B) = L at hc'
    induction L with
    | nil => rfl
    | cons x t ih =>
      have hx := hc' x List.mem_cons_self
      have := ih (fun v hv => hc' v (List.mem_cons_of_mem _ hv))
      unfold lg_sl at this ⊢
      rw [List.flatMap_cons, this]
      simp [hx]
  have hlen : (lg_sl (As.map (rvB B))).length = As.length := by rw [e]; simp
  have h0 := lv_entry (As.map (rvB B)) (n := n) (by rw [hlen]; exact hn)
  refine ⟨?_, h0.2.1, fun i v hi => ?_⟩
  · rw [h0.1]; simp; omega
  · by_cases hl : i < As.length
    · rw [List.getElem?_append_left (by simpa using hl)] at hi
      rw [List.getElem?_map] at hi
      have hv : As[i]? = some v := by
        cases e2 : As[i]? with
        | none => rw [e2] at hi; cases hi
        | some w => rw [e2] at hi; cases hi; rfl
      refine ⟨?_, hc v (List.mem_of_getElem? hv)⟩
      have hv2 : As[i] = v := by
        have := List.getElem?_eq_getElem hl
        rw [hv] at this
        exact (Option.some.inj this).symm
      rw [e]
      simp [List.getElem?_append_left, hl, hv2]
    · exfalso
      rw [List.getElem?_append_right (by simpa using hl)] at hi
      have := List.mem_of_getElem? hi
      simp at this
end
